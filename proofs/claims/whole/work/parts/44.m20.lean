theorem dL_make_0 : decode cL_make 0 = .ok (.aload 4, 2) := by decide +kernel
theorem dL_make_2 : decode cL_make 2 = .ok (.iconst 0, 1) := by decide +kernel
theorem dL_make_3 : decode cL_make 3 = .ok (.aload_n 0, 1) := by decide +kernel
theorem dL_make_4 : decode cL_make 4 = .ok (.iload_n 1, 1) := by decide +kernel
theorem dL_make_5 : decode cL_make 5 = .ok (.iload_n 2, 1) := by decide +kernel
theorem dL_make_6 : decode cL_make 6 = .ok (.iload_n 3, 1) := by decide +kernel
theorem dL_make_7 : decode cL_make 7 = .ok (.invokevirtual 7, 3) := by decide +kernel
theorem dL_make_10 : decode cL_make 10 = .ok (.i2l, 1) := by decide +kernel
theorem dL_make_11 : decode cL_make 11 = .ok (.lastore, 1) := by decide +kernel
theorem dL_make_12 : decode cL_make 12 = .ok (.goto 11, 3) := by decide +kernel
theorem dL_make_15 : decode cL_make 15 = .ok (.astore 5, 2) := by decide +kernel
theorem dL_make_17 : decode cL_make 17 = .ok (.iconst 1, 1) := by decide +kernel
theorem dL_make_18 : decode cL_make 18 = .ok (.ireturn, 1) := by decide +kernel
theorem dL_make_19 : decode cL_make 19 = .ok (.astore 5, 2) := by decide +kernel
theorem dL_make_21 : decode cL_make 21 = .ok (.iconst 2, 1) := by decide +kernel
theorem dL_make_22 : decode cL_make 22 = .ok (.ireturn, 1) := by decide +kernel
theorem dL_make_23 : decode cL_make 23 = .ok (.iconst 0, 1) := by decide +kernel
theorem dL_make_24 : decode cL_make 24 = .ok (.ireturn, 1) := by decide +kernel
theorem dL_battery_0 : decode cL_battery 0 = .ok (.aload_n 3, 1) := by decide +kernel
theorem dL_battery_1 : decode cL_battery 1 = .ok (.iconst 0, 1) := by decide +kernel
theorem dL_battery_2 : decode cL_battery 2 = .ok (.aload_n 0, 1) := by decide +kernel
theorem dL_battery_3 : decode cL_battery 3 = .ok (.iload_n 1, 1) := by decide +kernel
theorem dL_battery_4 : decode cL_battery 4 = .ok (.iload_n 2, 1) := by decide +kernel
theorem dL_battery_5 : decode cL_battery 5 = .ok (.invokevirtual 17, 3) := by decide +kernel
theorem dL_battery_8 : decode cL_battery 8 = .ok (.i2l, 1) := by decide +kernel
theorem dL_battery_9 : decode cL_battery 9 = .ok (.lastore, 1) := by decide +kernel
theorem dL_battery_10 : decode cL_battery 10 = .ok (.goto 11, 3) := by decide +kernel
theorem dL_battery_13 : decode cL_battery 13 = .ok (.astore 4, 2) := by decide +kernel
theorem dL_battery_15 : decode cL_battery 15 = .ok (.iconst 1, 1) := by decide +kernel
theorem dL_battery_16 : decode cL_battery 16 = .ok (.ireturn, 1) := by decide +kernel
theorem dL_battery_17 : decode cL_battery 17 = .ok (.astore 4, 2) := by decide +kernel
theorem dL_battery_19 : decode cL_battery 19 = .ok (.iconst 2, 1) := by decide +kernel
theorem dL_battery_20 : decode cL_battery 20 = .ok (.ireturn, 1) := by decide +kernel
theorem dL_battery_21 : decode cL_battery 21 = .ok (.iconst 0, 1) := by decide +kernel
theorem dL_battery_22 : decode cL_battery 22 = .ok (.ireturn, 1) := by decide +kernel
theorem dL_press_0 : decode cL_press 0 = .ok (.aload_n 3, 1) := by decide +kernel
theorem dL_press_1 : decode cL_press 1 = .ok (.iconst 0, 1) := by decide +kernel
theorem dL_press_2 : decode cL_press 2 = .ok (.aload_n 0, 1) := by decide +kernel
theorem dL_press_3 : decode cL_press 3 = .ok (.iload_n 1, 1) := by decide +kernel
theorem dL_press_4 : decode cL_press 4 = .ok (.iload_n 2, 1) := by decide +kernel
theorem dL_press_5 : decode cL_press 5 = .ok (.invokevirtual 21, 3) := by decide +kernel
theorem dL_press_8 : decode cL_press 8 = .ok (.i2l, 1) := by decide +kernel
theorem dL_press_9 : decode cL_press 9 = .ok (.lastore, 1) := by decide +kernel
theorem dL_press_10 : decode cL_press 10 = .ok (.goto 15, 3) := by decide +kernel
theorem dL_press_13 : decode cL_press 13 = .ok (.astore 4, 2) := by decide +kernel
theorem dL_press_15 : decode cL_press 15 = .ok (.iconst 1, 1) := by decide +kernel
theorem dL_press_16 : decode cL_press 16 = .ok (.ireturn, 1) := by decide +kernel
theorem dL_press_17 : decode cL_press 17 = .ok (.astore 4, 2) := by decide +kernel
theorem dL_press_19 : decode cL_press 19 = .ok (.iconst 2, 1) := by decide +kernel
theorem dL_press_20 : decode cL_press 20 = .ok (.ireturn, 1) := by decide +kernel
theorem dL_press_21 : decode cL_press 21 = .ok (.astore 4, 2) := by decide +kernel
theorem dL_press_23 : decode cL_press 23 = .ok (.iconst 3, 1) := by decide +kernel
theorem dL_press_24 : decode cL_press 24 = .ok (.ireturn, 1) := by decide +kernel
theorem dL_press_25 : decode cL_press 25 = .ok (.iconst 0, 1) := by decide +kernel
theorem dL_press_26 : decode cL_press 26 = .ok (.ireturn, 1) := by decide +kernel
theorem dL_again_0 : decode cL_again 0 = .ok (.aload_n 3, 1) := by decide +kernel
theorem dL_again_1 : decode cL_again 1 = .ok (.iconst 0, 1) := by decide +kernel
theorem dL_again_2 : decode cL_again 2 = .ok (.aload_n 0, 1) := by decide +kernel
theorem dL_again_3 : decode cL_again 3 = .ok (.iload_n 1, 1) := by decide +kernel
theorem dL_again_4 : decode cL_again 4 = .ok (.iload_n 2, 1) := by decide +kernel
theorem dL_again_5 : decode cL_again 5 = .ok (.invokevirtual 26, 3) := by decide +kernel
theorem dL_again_8 : decode cL_again 8 = .ok (.i2l, 1) := by decide +kernel
theorem dL_again_9 : decode cL_again 9 = .ok (.lastore, 1) := by decide +kernel
theorem dL_again_10 : decode cL_again 10 = .ok (.goto 11, 3) := by decide +kernel
theorem dL_again_13 : decode cL_again 13 = .ok (.astore 4, 2) := by decide +kernel
theorem dL_again_15 : decode cL_again 15 = .ok (.iconst 1, 1) := by decide +kernel
theorem dL_again_16 : decode cL_again 16 = .ok (.ireturn, 1) := by decide +kernel
theorem dL_again_17 : decode cL_again 17 = .ok (.astore 4, 2) := by decide +kernel
theorem dL_again_19 : decode cL_again 19 = .ok (.iconst 2, 1) := by decide +kernel
theorem dL_again_20 : decode cL_again 20 = .ok (.ireturn, 1) := by decide +kernel
theorem dL_again_21 : decode cL_again 21 = .ok (.iconst 0, 1) := by decide +kernel
theorem dL_again_22 : decode cL_again 22 = .ok (.ireturn, 1) := by decide +kernel
theorem dL_learn_0 : decode cL_learn 0 = .ok (.aload 4, 2) := by decide +kernel
theorem dL_learn_2 : decode cL_learn 2 = .ok (.iconst 0, 1) := by decide +kernel
theorem dL_learn_3 : decode cL_learn 3 = .ok (.aload_n 0, 1) := by decide +kernel
theorem dL_learn_4 : decode cL_learn 4 = .ok (.iload_n 1, 1) := by decide +kernel
theorem dL_learn_5 : decode cL_learn 5 = .ok (.iload_n 2, 1) := by decide +kernel
theorem dL_learn_6 : decode cL_learn 6 = .ok (.iload_n 3, 1) := by decide +kernel
theorem dL_learn_7 : decode cL_learn 7 = .ok (.invokevirtual 29, 3) := by decide +kernel
theorem dL_learn_10 : decode cL_learn 10 = .ok (.i2l, 1) := by decide +kernel
theorem dL_learn_11 : decode cL_learn 11 = .ok (.lastore, 1) := by decide +kernel
theorem dL_learn_12 : decode cL_learn 12 = .ok (.goto 7, 3) := by decide +kernel
theorem dL_learn_15 : decode cL_learn 15 = .ok (.astore 5, 2) := by decide +kernel
theorem dL_learn_17 : decode cL_learn 17 = .ok (.iconst 1, 1) := by decide +kernel
theorem dL_learn_18 : decode cL_learn 18 = .ok (.ireturn, 1) := by decide +kernel
theorem dL_learn_19 : decode cL_learn 19 = .ok (.iconst 0, 1) := by decide +kernel
theorem dL_learn_20 : decode cL_learn 20 = .ok (.ireturn, 1) := by decide +kernel
theorem dL_forget_0 : decode cL_forget 0 = .ok (.aload_n 3, 1) := by decide +kernel
theorem dL_forget_1 : decode cL_forget 1 = .ok (.iconst 0, 1) := by decide +kernel
theorem dL_forget_2 : decode cL_forget 2 = .ok (.aload_n 0, 1) := by decide +kernel
theorem dL_forget_3 : decode cL_forget 3 = .ok (.iload_n 1, 1) := by decide +kernel
theorem dL_forget_4 : decode cL_forget 4 = .ok (.iload_n 2, 1) := by decide +kernel
theorem dL_forget_5 : decode cL_forget 5 = .ok (.invokevirtual 32, 3) := by decide +kernel
theorem dL_forget_8 : decode cL_forget 8 = .ok (.i2l, 1) := by decide +kernel
theorem dL_forget_9 : decode cL_forget 9 = .ok (.lastore, 1) := by decide +kernel
theorem dL_forget_10 : decode cL_forget 10 = .ok (.goto 7, 3) := by decide +kernel
theorem dL_forget_13 : decode cL_forget 13 = .ok (.astore 4, 2) := by decide +kernel
theorem dL_forget_15 : decode cL_forget 15 = .ok (.iconst 1, 1) := by decide +kernel
theorem dL_forget_16 : decode cL_forget 16 = .ok (.ireturn, 1) := by decide +kernel
theorem dL_forget_17 : decode cL_forget 17 = .ok (.iconst 0, 1) := by decide +kernel
theorem dL_forget_18 : decode cL_forget 18 = .ok (.ireturn, 1) := by decide +kernel
theorem dL_shut_0 : decode cL_shut 0 = .ok (.aload_n 2, 1) := by decide +kernel
theorem dL_shut_1 : decode cL_shut 1 = .ok (.iconst 0, 1) := by decide +kernel
theorem dL_shut_2 : decode cL_shut 2 = .ok (.aload_n 0, 1) := by decide +kernel
theorem dL_shut_3 : decode cL_shut 3 = .ok (.iload_n 1, 1) := by decide +kernel
theorem dL_shut_4 : decode cL_shut 4 = .ok (.invokevirtual 35, 3) := by decide +kernel
theorem dL_shut_7 : decode cL_shut 7 = .ok (.i2l, 1) := by decide +kernel
theorem dL_shut_8 : decode cL_shut 8 = .ok (.lastore, 1) := by decide +kernel
theorem dL_shut_9 : decode cL_shut 9 = .ok (.goto 6, 3) := by decide +kernel
theorem dL_shut_12 : decode cL_shut 12 = .ok (.astore_n 3, 1) := by decide +kernel
theorem dL_shut_13 : decode cL_shut 13 = .ok (.iconst 1, 1) := by decide +kernel
theorem dL_shut_14 : decode cL_shut 14 = .ok (.ireturn, 1) := by decide +kernel
theorem dL_shut_15 : decode cL_shut 15 = .ok (.iconst 0, 1) := by decide +kernel
theorem dL_shut_16 : decode cL_shut 16 = .ok (.ireturn, 1) := by decide +kernel
theorem dL_unlock_0 : decode cL_unlock 0 = .ok (.aload_n 2, 1) := by decide +kernel
theorem dL_unlock_1 : decode cL_unlock 1 = .ok (.iconst 0, 1) := by decide +kernel
theorem dL_unlock_2 : decode cL_unlock 2 = .ok (.aload_n 0, 1) := by decide +kernel
theorem dL_unlock_3 : decode cL_unlock 3 = .ok (.iload_n 1, 1) := by decide +kernel
theorem dL_unlock_4 : decode cL_unlock 4 = .ok (.invokevirtual 39, 3) := by decide +kernel
theorem dL_unlock_7 : decode cL_unlock 7 = .ok (.i2l, 1) := by decide +kernel
theorem dL_unlock_8 : decode cL_unlock 8 = .ok (.lastore, 1) := by decide +kernel
theorem dL_unlock_9 : decode cL_unlock 9 = .ok (.goto 6, 3) := by decide +kernel
theorem dL_unlock_12 : decode cL_unlock 12 = .ok (.astore_n 3, 1) := by decide +kernel
theorem dL_unlock_13 : decode cL_unlock 13 = .ok (.iconst 1, 1) := by decide +kernel
theorem dL_unlock_14 : decode cL_unlock 14 = .ok (.ireturn, 1) := by decide +kernel
theorem dL_unlock_15 : decode cL_unlock 15 = .ok (.iconst 0, 1) := by decide +kernel
theorem dL_unlock_16 : decode cL_unlock 16 = .ok (.ireturn, 1) := by decide +kernel
theorem dL_set_0 : decode cL_set 0 = .ok (.aload_n 3, 1) := by decide +kernel
theorem dL_set_1 : decode cL_set 1 = .ok (.iconst 0, 1) := by decide +kernel
theorem dL_set_2 : decode cL_set 2 = .ok (.aload_n 0, 1) := by decide +kernel
theorem dL_set_3 : decode cL_set 3 = .ok (.iload_n 1, 1) := by decide +kernel
theorem dL_set_4 : decode cL_set 4 = .ok (.iload_n 2, 1) := by decide +kernel
theorem dL_set_5 : decode cL_set 5 = .ok (.invokevirtual 42, 3) := by decide +kernel
theorem dL_set_8 : decode cL_set 8 = .ok (.i2l, 1) := by decide +kernel
theorem dL_set_9 : decode cL_set 9 = .ok (.lastore, 1) := by decide +kernel
theorem dL_set_10 : decode cL_set 10 = .ok (.goto 11, 3) := by decide +kernel
theorem dL_set_13 : decode cL_set 13 = .ok (.astore 4, 2) := by decide +kernel
theorem dL_set_15 : decode cL_set 15 = .ok (.iconst 1, 1) := by decide +kernel
theorem dL_set_16 : decode cL_set 16 = .ok (.ireturn, 1) := by decide +kernel
theorem dL_set_17 : decode cL_set 17 = .ok (.astore 4, 2) := by decide +kernel
theorem dL_set_19 : decode cL_set 19 = .ok (.iconst 2, 1) := by decide +kernel
theorem dL_set_20 : decode cL_set 20 = .ok (.ireturn, 1) := by decide +kernel
theorem dL_set_21 : decode cL_set 21 = .ok (.iconst 0, 1) := by decide +kernel
theorem dL_set_22 : decode cL_set 22 = .ok (.ireturn, 1) := by decide +kernel
theorem dL_append_0 : decode cL_append 0 = .ok (.aload_n 2, 1) := by decide +kernel
theorem dL_append_1 : decode cL_append 1 = .ok (.iconst 0, 1) := by decide +kernel
theorem dL_append_2 : decode cL_append 2 = .ok (.aload_n 0, 1) := by decide +kernel
theorem dL_append_3 : decode cL_append 3 = .ok (.iload_n 1, 1) := by decide +kernel
theorem dL_append_4 : decode cL_append 4 = .ok (.invokevirtual 45, 3) := by decide +kernel
theorem dL_append_7 : decode cL_append 7 = .ok (.i2l, 1) := by decide +kernel
theorem dL_append_8 : decode cL_append 8 = .ok (.lastore, 1) := by decide +kernel
theorem dL_append_9 : decode cL_append 9 = .ok (.goto 9, 3) := by decide +kernel
theorem dL_append_12 : decode cL_append 12 = .ok (.astore_n 3, 1) := by decide +kernel
theorem dL_append_13 : decode cL_append 13 = .ok (.iconst 1, 1) := by decide +kernel
theorem dL_append_14 : decode cL_append 14 = .ok (.ireturn, 1) := by decide +kernel
theorem dL_append_15 : decode cL_append 15 = .ok (.astore_n 3, 1) := by decide +kernel
theorem dL_append_16 : decode cL_append 16 = .ok (.iconst 2, 1) := by decide +kernel
theorem dL_append_17 : decode cL_append 17 = .ok (.ireturn, 1) := by decide +kernel
theorem dL_append_18 : decode cL_append 18 = .ok (.iconst 0, 1) := by decide +kernel
theorem dL_append_19 : decode cL_append 19 = .ok (.ireturn, 1) := by decide +kernel
theorem dL_play_0 : decode cL_play 0 = .ok (.aload_n 1, 1) := by decide +kernel
theorem dL_play_1 : decode cL_play 1 = .ok (.iconst 0, 1) := by decide +kernel
theorem dL_play_2 : decode cL_play 2 = .ok (.aload_n 0, 1) := by decide +kernel
theorem dL_play_3 : decode cL_play 3 = .ok (.invokevirtual 48, 3) := by decide +kernel
theorem dL_play_6 : decode cL_play 6 = .ok (.i2l, 1) := by decide +kernel
theorem dL_play_7 : decode cL_play 7 = .ok (.lastore, 1) := by decide +kernel
theorem dL_play_8 : decode cL_play 8 = .ok (.goto 6, 3) := by decide +kernel
theorem dL_play_11 : decode cL_play 11 = .ok (.astore_n 2, 1) := by decide +kernel
theorem dL_play_12 : decode cL_play 12 = .ok (.iconst 1, 1) := by decide +kernel
theorem dL_play_13 : decode cL_play 13 = .ok (.ireturn, 1) := by decide +kernel
theorem dL_play_14 : decode cL_play 14 = .ok (.iconst 0, 1) := by decide +kernel
theorem dL_play_15 : decode cL_play 15 = .ok (.ireturn, 1) := by decide +kernel
theorem dL_undo_0 : decode cL_undo 0 = .ok (.aload_n 1, 1) := by decide +kernel
theorem dL_undo_1 : decode cL_undo 1 = .ok (.iconst 0, 1) := by decide +kernel
theorem dL_undo_2 : decode cL_undo 2 = .ok (.aload_n 0, 1) := by decide +kernel
theorem dL_undo_3 : decode cL_undo 3 = .ok (.invokevirtual 52, 3) := by decide +kernel
theorem dL_undo_6 : decode cL_undo 6 = .ok (.i2l, 1) := by decide +kernel
theorem dL_undo_7 : decode cL_undo 7 = .ok (.lastore, 1) := by decide +kernel
theorem dL_undo_8 : decode cL_undo 8 = .ok (.goto 6, 3) := by decide +kernel
theorem dL_undo_11 : decode cL_undo 11 = .ok (.astore_n 2, 1) := by decide +kernel
theorem dL_undo_12 : decode cL_undo 12 = .ok (.iconst 1, 1) := by decide +kernel
theorem dL_undo_13 : decode cL_undo 13 = .ok (.ireturn, 1) := by decide +kernel
theorem dL_undo_14 : decode cL_undo 14 = .ok (.iconst 0, 1) := by decide +kernel
theorem dL_undo_15 : decode cL_undo 15 = .ok (.ireturn, 1) := by decide +kernel
theorem dL_fob_0 : decode cL_fob 0 = .ok (.aload_n 3, 1) := by decide +kernel
theorem dL_fob_1 : decode cL_fob 1 = .ok (.iconst 0, 1) := by decide +kernel
theorem dL_fob_2 : decode cL_fob 2 = .ok (.aload_n 0, 1) := by decide +kernel
theorem dL_fob_3 : decode cL_fob 3 = .ok (.iload_n 1, 1) := by decide +kernel
theorem dL_fob_4 : decode cL_fob 4 = .ok (.iload_n 2, 1) := by decide +kernel
theorem dL_fob_5 : decode cL_fob 5 = .ok (.invokevirtual 55, 3) := by decide +kernel
theorem dL_fob_8 : decode cL_fob 8 = .ok (.i2l, 1) := by decide +kernel
theorem dL_fob_9 : decode cL_fob 9 = .ok (.lastore, 1) := by decide +kernel
theorem dL_fob_10 : decode cL_fob 10 = .ok (.goto 11, 3) := by decide +kernel
theorem dL_fob_13 : decode cL_fob 13 = .ok (.astore 4, 2) := by decide +kernel
theorem dL_fob_15 : decode cL_fob 15 = .ok (.iconst 1, 1) := by decide +kernel
theorem dL_fob_16 : decode cL_fob 16 = .ok (.ireturn, 1) := by decide +kernel
theorem dL_fob_17 : decode cL_fob 17 = .ok (.astore 4, 2) := by decide +kernel
theorem dL_fob_19 : decode cL_fob 19 = .ok (.iconst 2, 1) := by decide +kernel
theorem dL_fob_20 : decode cL_fob 20 = .ok (.ireturn, 1) := by decide +kernel
theorem dL_fob_21 : decode cL_fob 21 = .ok (.iconst 0, 1) := by decide +kernel
theorem dL_fob_22 : decode cL_fob 22 = .ok (.ireturn, 1) := by decide +kernel
theorem dL_slot_0 : decode cL_slot 0 = .ok (.aload 4, 2) := by decide +kernel
theorem dL_slot_2 : decode cL_slot 2 = .ok (.iconst 0, 1) := by decide +kernel
theorem dL_slot_3 : decode cL_slot 3 = .ok (.aload_n 0, 1) := by decide +kernel
theorem dL_slot_4 : decode cL_slot 4 = .ok (.iload_n 1, 1) := by decide +kernel
theorem dL_slot_5 : decode cL_slot 5 = .ok (.iload_n 2, 1) := by decide +kernel
theorem dL_slot_6 : decode cL_slot 6 = .ok (.iload_n 3, 1) := by decide +kernel
theorem dL_slot_7 : decode cL_slot 7 = .ok (.invokevirtual 58, 3) := by decide +kernel
theorem dL_slot_10 : decode cL_slot 10 = .ok (.i2l, 1) := by decide +kernel
theorem dL_slot_11 : decode cL_slot 11 = .ok (.lastore, 1) := by decide +kernel
theorem dL_slot_12 : decode cL_slot 12 = .ok (.goto 11, 3) := by decide +kernel
theorem dL_slot_15 : decode cL_slot 15 = .ok (.astore 5, 2) := by decide +kernel
theorem dL_slot_17 : decode cL_slot 17 = .ok (.iconst 1, 1) := by decide +kernel
theorem dL_slot_18 : decode cL_slot 18 = .ok (.ireturn, 1) := by decide +kernel
theorem dL_slot_19 : decode cL_slot 19 = .ok (.astore 5, 2) := by decide +kernel
theorem dL_slot_21 : decode cL_slot 21 = .ok (.iconst 2, 1) := by decide +kernel
theorem dL_slot_22 : decode cL_slot 22 = .ok (.ireturn, 1) := by decide +kernel
theorem dL_slot_23 : decode cL_slot 23 = .ok (.iconst 0, 1) := by decide +kernel
theorem dL_slot_24 : decode cL_slot 24 = .ok (.ireturn, 1) := by decide +kernel
theorem dL_door_0 : decode cL_door 0 = .ok (.aload_n 3, 1) := by decide +kernel
theorem dL_door_1 : decode cL_door 1 = .ok (.iconst 0, 1) := by decide +kernel
theorem dL_door_2 : decode cL_door 2 = .ok (.aload_n 0, 1) := by decide +kernel
theorem dL_door_3 : decode cL_door 3 = .ok (.iload_n 1, 1) := by decide +kernel
theorem dL_door_4 : decode cL_door 4 = .ok (.iload_n 2, 1) := by decide +kernel
theorem dL_door_5 : decode cL_door 5 = .ok (.invokevirtual 61, 3) := by decide +kernel
theorem dL_door_8 : decode cL_door 8 = .ok (.i2l, 1) := by decide +kernel
theorem dL_door_9 : decode cL_door 9 = .ok (.lastore, 1) := by decide +kernel
theorem dL_door_10 : decode cL_door 10 = .ok (.goto 11, 3) := by decide +kernel
theorem dL_door_13 : decode cL_door 13 = .ok (.astore 4, 2) := by decide +kernel
theorem dL_door_15 : decode cL_door 15 = .ok (.iconst 1, 1) := by decide +kernel
theorem dL_door_16 : decode cL_door 16 = .ok (.ireturn, 1) := by decide +kernel
theorem dL_door_17 : decode cL_door 17 = .ok (.astore 4, 2) := by decide +kernel
theorem dL_door_19 : decode cL_door 19 = .ok (.iconst 2, 1) := by decide +kernel
theorem dL_door_20 : decode cL_door 20 = .ok (.ireturn, 1) := by decide +kernel
theorem dL_door_21 : decode cL_door 21 = .ok (.iconst 0, 1) := by decide +kernel
theorem dL_door_22 : decode cL_door 22 = .ok (.ireturn, 1) := by decide +kernel
theorem dL_air_0 : decode cL_air 0 = .ok (.aload_n 2, 1) := by decide +kernel
theorem dL_air_1 : decode cL_air 1 = .ok (.iconst 0, 1) := by decide +kernel
theorem dL_air_2 : decode cL_air 2 = .ok (.aload_n 0, 1) := by decide +kernel
theorem dL_air_3 : decode cL_air 3 = .ok (.iload_n 1, 1) := by decide +kernel
theorem dL_air_4 : decode cL_air 4 = .ok (.invokevirtual 64, 3) := by decide +kernel
theorem dL_air_7 : decode cL_air 7 = .ok (.i2l, 1) := by decide +kernel
theorem dL_air_8 : decode cL_air 8 = .ok (.lastore, 1) := by decide +kernel
theorem dL_air_9 : decode cL_air 9 = .ok (.goto 6, 3) := by decide +kernel
theorem dL_air_12 : decode cL_air 12 = .ok (.astore_n 3, 1) := by decide +kernel
theorem dL_air_13 : decode cL_air 13 = .ok (.iconst 1, 1) := by decide +kernel
theorem dL_air_14 : decode cL_air 14 = .ok (.ireturn, 1) := by decide +kernel
theorem dL_air_15 : decode cL_air 15 = .ok (.iconst 0, 1) := by decide +kernel
theorem dL_air_16 : decode cL_air 16 = .ok (.ireturn, 1) := by decide +kernel
theorem dL_count_0 : decode cL_count 0 = .ok (.aload_n 2, 1) := by decide +kernel
theorem dL_count_1 : decode cL_count 1 = .ok (.iconst 0, 1) := by decide +kernel
theorem dL_count_2 : decode cL_count 2 = .ok (.aload_n 0, 1) := by decide +kernel
theorem dL_count_3 : decode cL_count 3 = .ok (.iload_n 1, 1) := by decide +kernel
theorem dL_count_4 : decode cL_count 4 = .ok (.invokevirtual 67, 3) := by decide +kernel
theorem dL_count_7 : decode cL_count 7 = .ok (.i2l, 1) := by decide +kernel
theorem dL_count_8 : decode cL_count 8 = .ok (.lastore, 1) := by decide +kernel
theorem dL_count_9 : decode cL_count 9 = .ok (.goto 6, 3) := by decide +kernel
theorem dL_count_12 : decode cL_count 12 = .ok (.astore_n 3, 1) := by decide +kernel
theorem dL_count_13 : decode cL_count 13 = .ok (.iconst 1, 1) := by decide +kernel
theorem dL_count_14 : decode cL_count 14 = .ok (.ireturn, 1) := by decide +kernel
theorem dL_count_15 : decode cL_count 15 = .ok (.iconst 0, 1) := by decide +kernel
theorem dL_count_16 : decode cL_count 16 = .ok (.ireturn, 1) := by decide +kernel
theorem dL_setting_0 : decode cL_setting 0 = .ok (.aload_n 2, 1) := by decide +kernel
theorem dL_setting_1 : decode cL_setting 1 = .ok (.iconst 0, 1) := by decide +kernel
theorem dL_setting_2 : decode cL_setting 2 = .ok (.aload_n 0, 1) := by decide +kernel
theorem dL_setting_3 : decode cL_setting 3 = .ok (.iload_n 1, 1) := by decide +kernel
theorem dL_setting_4 : decode cL_setting 4 = .ok (.invokevirtual 70, 3) := by decide +kernel
theorem dL_setting_7 : decode cL_setting 7 = .ok (.i2l, 1) := by decide +kernel
theorem dL_setting_8 : decode cL_setting 8 = .ok (.lastore, 1) := by decide +kernel
theorem dL_setting_9 : decode cL_setting 9 = .ok (.goto 6, 3) := by decide +kernel
theorem dL_setting_12 : decode cL_setting 12 = .ok (.astore_n 3, 1) := by decide +kernel
theorem dL_setting_13 : decode cL_setting 13 = .ok (.iconst 1, 1) := by decide +kernel
theorem dL_setting_14 : decode cL_setting 14 = .ok (.ireturn, 1) := by decide +kernel
theorem dL_setting_15 : decode cL_setting 15 = .ok (.iconst 0, 1) := by decide +kernel
theorem dL_setting_16 : decode cL_setting 16 = .ok (.ireturn, 1) := by decide +kernel
theorem dL_ifHeard_0 : decode cL_ifHeard 0 = .ok (.aload_n 3, 1) := by decide +kernel
theorem dL_ifHeard_1 : decode cL_ifHeard 1 = .ok (.iconst 0, 1) := by decide +kernel
theorem dL_ifHeard_2 : decode cL_ifHeard 2 = .ok (.aload_n 0, 1) := by decide +kernel
theorem dL_ifHeard_3 : decode cL_ifHeard 3 = .ok (.iload_n 1, 1) := by decide +kernel
theorem dL_ifHeard_4 : decode cL_ifHeard 4 = .ok (.iload_n 2, 1) := by decide +kernel
theorem dL_ifHeard_5 : decode cL_ifHeard 5 = .ok (.invokevirtual 73, 3) := by decide +kernel
theorem dL_ifHeard_8 : decode cL_ifHeard 8 = .ok (.i2l, 1) := by decide +kernel
theorem dL_ifHeard_9 : decode cL_ifHeard 9 = .ok (.lastore, 1) := by decide +kernel
theorem dL_ifHeard_10 : decode cL_ifHeard 10 = .ok (.goto 11, 3) := by decide +kernel
theorem dL_ifHeard_13 : decode cL_ifHeard 13 = .ok (.astore 4, 2) := by decide +kernel
theorem dL_ifHeard_15 : decode cL_ifHeard 15 = .ok (.iconst 1, 1) := by decide +kernel
theorem dL_ifHeard_16 : decode cL_ifHeard 16 = .ok (.ireturn, 1) := by decide +kernel
theorem dL_ifHeard_17 : decode cL_ifHeard 17 = .ok (.astore 4, 2) := by decide +kernel
theorem dL_ifHeard_19 : decode cL_ifHeard 19 = .ok (.iconst 2, 1) := by decide +kernel
theorem dL_ifHeard_20 : decode cL_ifHeard 20 = .ok (.ireturn, 1) := by decide +kernel
theorem dL_ifHeard_21 : decode cL_ifHeard 21 = .ok (.iconst 0, 1) := by decide +kernel
theorem dL_ifHeard_22 : decode cL_ifHeard 22 = .ok (.ireturn, 1) := by decide +kernel
theorem dL_opensIn_0 : decode cL_opensIn 0 = .ok (.aload_n 3, 1) := by decide +kernel
theorem dL_opensIn_1 : decode cL_opensIn 1 = .ok (.iconst 0, 1) := by decide +kernel
theorem dL_opensIn_2 : decode cL_opensIn 2 = .ok (.aload_n 0, 1) := by decide +kernel
theorem dL_opensIn_3 : decode cL_opensIn 3 = .ok (.iload_n 1, 1) := by decide +kernel
theorem dL_opensIn_4 : decode cL_opensIn 4 = .ok (.iload_n 2, 1) := by decide +kernel
theorem dL_opensIn_5 : decode cL_opensIn 5 = .ok (.invokevirtual 76, 3) := by decide +kernel
theorem dL_opensIn_8 : decode cL_opensIn 8 = .ok (.i2l, 1) := by decide +kernel
theorem dL_opensIn_9 : decode cL_opensIn 9 = .ok (.lastore, 1) := by decide +kernel
theorem dL_opensIn_10 : decode cL_opensIn 10 = .ok (.goto 7, 3) := by decide +kernel
theorem dL_opensIn_13 : decode cL_opensIn 13 = .ok (.astore 4, 2) := by decide +kernel
theorem dL_opensIn_15 : decode cL_opensIn 15 = .ok (.iconst 1, 1) := by decide +kernel
theorem dL_opensIn_16 : decode cL_opensIn 16 = .ok (.ireturn, 1) := by decide +kernel
theorem dL_opensIn_17 : decode cL_opensIn 17 = .ok (.iconst 0, 1) := by decide +kernel
theorem dL_opensIn_18 : decode cL_opensIn 18 = .ok (.ireturn, 1) := by decide +kernel
theorem dL_unheard_0 : decode cL_unheard 0 = .ok (.aload_n 3, 1) := by decide +kernel
theorem dL_unheard_1 : decode cL_unheard 1 = .ok (.iconst 0, 1) := by decide +kernel
theorem dL_unheard_2 : decode cL_unheard 2 = .ok (.aload_n 0, 1) := by decide +kernel
theorem dL_unheard_3 : decode cL_unheard 3 = .ok (.iload_n 1, 1) := by decide +kernel
theorem dL_unheard_4 : decode cL_unheard 4 = .ok (.iload_n 2, 1) := by decide +kernel
theorem dL_unheard_5 : decode cL_unheard 5 = .ok (.invokevirtual 79, 3) := by decide +kernel
theorem dL_unheard_8 : decode cL_unheard 8 = .ok (.i2l, 1) := by decide +kernel
theorem dL_unheard_9 : decode cL_unheard 9 = .ok (.lastore, 1) := by decide +kernel
theorem dL_unheard_10 : decode cL_unheard 10 = .ok (.goto 7, 3) := by decide +kernel
theorem dL_unheard_13 : decode cL_unheard 13 = .ok (.astore 4, 2) := by decide +kernel
theorem dL_unheard_15 : decode cL_unheard 15 = .ok (.iconst 1, 1) := by decide +kernel
theorem dL_unheard_16 : decode cL_unheard 16 = .ok (.ireturn, 1) := by decide +kernel
theorem dL_unheard_17 : decode cL_unheard 17 = .ok (.iconst 0, 1) := by decide +kernel
theorem dL_unheard_18 : decode cL_unheard 18 = .ok (.ireturn, 1) := by decide +kernel
theorem dL_useful_0 : decode cL_useful 0 = .ok (.aload_n 2, 1) := by decide +kernel
theorem dL_useful_1 : decode cL_useful 1 = .ok (.iconst 0, 1) := by decide +kernel
theorem dL_useful_2 : decode cL_useful 2 = .ok (.aload_n 0, 1) := by decide +kernel
theorem dL_useful_3 : decode cL_useful 3 = .ok (.iload_n 1, 1) := by decide +kernel
theorem dL_useful_4 : decode cL_useful 4 = .ok (.invokevirtual 82, 3) := by decide +kernel
theorem dL_useful_7 : decode cL_useful 7 = .ok (.i2l, 1) := by decide +kernel
theorem dL_useful_8 : decode cL_useful 8 = .ok (.lastore, 1) := by decide +kernel
theorem dL_useful_9 : decode cL_useful 9 = .ok (.goto 6, 3) := by decide +kernel
theorem dL_useful_12 : decode cL_useful 12 = .ok (.astore_n 3, 1) := by decide +kernel
theorem dL_useful_13 : decode cL_useful 13 = .ok (.iconst 1, 1) := by decide +kernel
theorem dL_useful_14 : decode cL_useful 14 = .ok (.ireturn, 1) := by decide +kernel
theorem dL_useful_15 : decode cL_useful 15 = .ok (.iconst 0, 1) := by decide +kernel
theorem dL_useful_16 : decode cL_useful 16 = .ok (.ireturn, 1) := by decide +kernel
theorem clL_13 : Cond.classLink RL 13 "java/lang/IndexOutOfBoundsException" ∈ TB := by decide +kernel
theorem clL_15 : Cond.classLink RL 15 "java/lang/IllegalArgumentException" ∈ TB := by decide +kernel
theorem clL_24 : Cond.classLink RL 24 "java/lang/IllegalStateException" ∈ TB := by decide +kernel
theorem cbL_13 : Cond.castable "java/lang/IndexOutOfBoundsException" "java/lang/IndexOutOfBoundsException" ∈ badL := by decide +kernel
theorem cbL_15 : Cond.castable "java/lang/IllegalArgumentException" "java/lang/IllegalArgumentException" ∈ badL := by decide +kernel
theorem cbL_24 : Cond.castable "java/lang/IllegalStateException" "java/lang/IllegalStateException" ∈ badL := by decide +kernel

abbrev rmw_make : Room := { frames := 9, cells := 1, slots := 6, locals := 157 }
abbrev hh_make : List (Nat × Nat × Nat × Nat) := [(0, 12, 15, 13), (0, 12, 19, 15)]

set_option maxHeartbeats 4000000 in
set_option maxRecDepth 100000 in
theorem w_make {l : Launch} {D : va_G} {cy : Nat → ClassId} {ad : Ads} (hI : IJ ad) (x : Mem) (p0 p1 p2 : Int32) {post : Int32 → Mem → Prop} (hC : Cti l yX8_make cX8_make 6 (some .int) rm_X8_make D cy ad [.ref (ad 8 9 0), .int p0, .int p1, .int p2] x post) : Ctw l yL_make cL_make 6 hh_make rmw_make D cy ad [.ref (ad 8 9 0), .int p0, .int p1, .int p2, .ref (ad 16 19 0)] x (fun r y => r = 0 ∧ ∃ v z, post v z ∧ y = up z 16 0 v) := by
  refine rm_entryW hI (by decide) (Nat.le_of_ble_eq_true rfl) ?_
  intro p e s m args below meth c hc hX
  show RM _ _ _ _ _ _ _ _ _ _ _ _ _ _ _ _ _ [(0, .ref (ad 8 9 0)), (1, .int p0), (2, .int p1), (3, .int p2), (4, .ref (ad 16 19 0))] []
  refine rm_aload hc dL_make_0 rfl ?_
  refine rm_iconst (v := 0) hc dL_make_2 (by decide) ?_
  refine rm_aload_n hc dL_make_3 rfl rfl ?_
  refine rm_iload_n hc dL_make_4 rfl rfl ?_
  refine rm_iload_n hc dL_make_5 rfl rfl ?_
  refine rm_iload_n hc dL_make_6 rfl rfl ?_
  refine rm_calliV (As := [.int p0, .int p1, .int p2]) (rest := [.int 0, .ref (ad 16 19 0)]) hc dL_make_7 hC mv_L_7 dm_9 rfl rfl (hn := rfl) (hst := rfl) (hw := Nat.le_of_ble_eq_true rfl) (hR := ⟨⟨rfl, rfl⟩, Nat.le_of_ble_eq_true rfl, Nat.le_of_ble_eq_true rfl⟩) (hnc := ⟨Nat.zero_le _, Nat.zero_le _⟩) (fun r_1 y_1 h_1 => ?_)
  refine rm_i2l hc dL_make_10 (fun v_2 e_2 => ?_)
  refine rm_last (r := r_1) hc dL_make_11 e_2 ?_
  refine rm_goto (tgt := 23) hc dL_make_12 (by decide) ?_
  refine rm_iconst (v := 0) hc dL_make_23 (by decide) ?_
  exact rm_iretW hc dL_make_24 (by decide) (by decide) ⟨rfl, r_1, y_1, h_1, rfl⟩

set_option maxHeartbeats 4000000 in
set_option maxRecDepth 100000 in
theorem w_make_1 {l : Launch} {D : va_G} {cy : Nat → ClassId} {ad : Ads} (hI : IJ ad) (x : Mem) (p0 p1 p2 : Int32) (hC : Ctx l yX8_make cX8_make 6 (some .int) rmx_X8_make D cy ad [.ref (ad 8 9 0), .int p0, .int p1, .int p2] x "java/lang/IndexOutOfBoundsException") : Ctw l yL_make cL_make 6 hh_make rmw_make D cy ad [.ref (ad 8 9 0), .int p0, .int p1, .int p2, .ref (ad 16 19 0)] x (fun r y => r = 1 ∧ y = x) := by
  refine rm_entryW hI (by decide) (Nat.le_of_ble_eq_true rfl) ?_
  intro p e s m args below meth c hc hX
  show RM _ _ _ _ _ _ _ _ _ _ _ _ _ _ _ _ _ [(0, .ref (ad 8 9 0)), (1, .int p0), (2, .int p1), (3, .int p2), (4, .ref (ad 16 19 0))] []
  refine rm_aload hc dL_make_0 rfl ?_
  refine rm_iconst (v := 0) hc dL_make_2 (by decide) ?_
  refine rm_aload_n hc dL_make_3 rfl rfl ?_
  refine rm_iload_n hc dL_make_4 rfl rfl ?_
  refine rm_iload_n hc dL_make_5 rfl rfl ?_
  refine rm_iload_n hc dL_make_6 rfl rfl ?_
  refine rm_catV (As := [.int p0, .int p1, .int p2]) (rest := [.int 0, .ref (ad 16 19 0)]) hc hX [] ⟨0, 12, 15, 13⟩ [⟨0, 12, 19, 15⟩] dL_make_7 hC mv_L_7 dm_9 rfl rfl (hn := rfl) (hst := rfl) (hw := Nat.le_of_ble_eq_true rfl) (hR := ⟨⟨rfl, rfl⟩, Nat.le_of_ble_eq_true rfl, Nat.le_of_ble_eq_true rfl⟩) (hnc := ⟨Nat.le_of_ble_eq_true rfl, Nat.le_of_ble_eq_true rfl⟩) rfl (fun z hz => nomatch hz) (by decide) (by decide) clL_13 cbL_13 (fun q9 => ?_)
  refine rm_astore (ls' := [(0, .ref (ad 8 9 0)), (1, .int p0), (2, .int p1), (3, .int p2), (4, .ref (ad 16 19 0)), (5, .ref q9)]) hc dL_make_15 (by decide) rfl ?_
  refine rm_iconst (v := 1) hc dL_make_17 (by decide) ?_
  exact rm_iretW hc dL_make_18 (by decide) (by decide) ⟨rfl, rfl⟩

set_option maxHeartbeats 4000000 in
set_option maxRecDepth 100000 in
theorem w_make_2 {l : Launch} {D : va_G} {cy : Nat → ClassId} {ad : Ads} (hI : IJ ad) (x : Mem) (p0 p1 p2 : Int32) (hC : Ctx l yX8_make cX8_make 6 (some .int) rmx_X8_make D cy ad [.ref (ad 8 9 0), .int p0, .int p1, .int p2] x "java/lang/IllegalArgumentException") : Ctw l yL_make cL_make 6 hh_make rmw_make D cy ad [.ref (ad 8 9 0), .int p0, .int p1, .int p2, .ref (ad 16 19 0)] x (fun r y => r = 2 ∧ y = x) := by
  refine rm_entryW hI (by decide) (Nat.le_of_ble_eq_true rfl) ?_
  intro p e s m args below meth c hc hX
  show RM _ _ _ _ _ _ _ _ _ _ _ _ _ _ _ _ _ [(0, .ref (ad 8 9 0)), (1, .int p0), (2, .int p1), (3, .int p2), (4, .ref (ad 16 19 0))] []
  refine rm_aload hc dL_make_0 rfl ?_
  refine rm_iconst (v := 0) hc dL_make_2 (by decide) ?_
  refine rm_aload_n hc dL_make_3 rfl rfl ?_
  refine rm_iload_n hc dL_make_4 rfl rfl ?_
  refine rm_iload_n hc dL_make_5 rfl rfl ?_
  refine rm_iload_n hc dL_make_6 rfl rfl ?_
  refine rm_catV (As := [.int p0, .int p1, .int p2]) (rest := [.int 0, .ref (ad 16 19 0)]) hc hX [⟨0, 12, 15, 13⟩] ⟨0, 12, 19, 15⟩ [] dL_make_7 hC mv_L_7 dm_9 rfl rfl (hn := rfl) (hst := rfl) (hw := Nat.le_of_ble_eq_true rfl) (hR := ⟨⟨rfl, rfl⟩, Nat.le_of_ble_eq_true rfl, Nat.le_of_ble_eq_true rfl⟩) (hnc := ⟨Nat.le_of_ble_eq_true rfl, Nat.le_of_ble_eq_true rfl⟩) rfl (fun z hz => by simp at hz; subst hz; first | exact ⟨by decide, _, clL_13, by decide +kernel⟩ | exact ⟨by decide, _, clL_15, by decide +kernel⟩) (by decide) (by decide) clL_15 cbL_15 (fun q9 => ?_)
  refine rm_astore (ls' := [(0, .ref (ad 8 9 0)), (1, .int p0), (2, .int p1), (3, .int p2), (4, .ref (ad 16 19 0)), (5, .ref q9)]) hc dL_make_19 (by decide) rfl ?_
  refine rm_iconst (v := 2) hc dL_make_21 (by decide) ?_
  exact rm_iretW hc dL_make_22 (by decide) (by decide) ⟨rfl, rfl⟩

abbrev rmw_battery : Room := { frames := 9, cells := 1, slots := 6, locals := 156 }
abbrev hh_battery : List (Nat × Nat × Nat × Nat) := [(0, 10, 13, 13), (0, 10, 17, 15)]

set_option maxHeartbeats 4000000 in
set_option maxRecDepth 100000 in
theorem w_battery {l : Launch} {D : va_G} {cy : Nat → ClassId} {ad : Ads} (hI : IJ ad) (x : Mem) (p0 p1 : Int32) {post : Int32 → Mem → Prop} (hC : Cti l yX8_battery cX8_battery 5 (some .int) rm_X8_battery D cy ad [.ref (ad 8 9 0), .int p0, .int p1] x post) : Ctw l yL_battery cL_battery 5 hh_battery rmw_battery D cy ad [.ref (ad 8 9 0), .int p0, .int p1, .ref (ad 16 19 0)] x (fun r y => r = 0 ∧ ∃ v z, post v z ∧ y = up z 16 0 v) := by
  refine rm_entryW hI (by decide) (Nat.le_of_ble_eq_true rfl) ?_
  intro p e s m args below meth c hc hX
  show RM _ _ _ _ _ _ _ _ _ _ _ _ _ _ _ _ _ [(0, .ref (ad 8 9 0)), (1, .int p0), (2, .int p1), (3, .ref (ad 16 19 0))] []
  refine rm_aload_n hc dL_battery_0 rfl rfl ?_
  refine rm_iconst (v := 0) hc dL_battery_1 (by decide) ?_
  refine rm_aload_n hc dL_battery_2 rfl rfl ?_
  refine rm_iload_n hc dL_battery_3 rfl rfl ?_
  refine rm_iload_n hc dL_battery_4 rfl rfl ?_
  refine rm_calliV (As := [.int p0, .int p1]) (rest := [.int 0, .ref (ad 16 19 0)]) hc dL_battery_5 hC mv_L_17 dm_9 rfl rfl (hn := rfl) (hst := rfl) (hw := Nat.le_of_ble_eq_true rfl) (hR := ⟨⟨rfl, rfl⟩, Nat.le_of_ble_eq_true rfl, Nat.le_of_ble_eq_true rfl⟩) (hnc := ⟨Nat.zero_le _, Nat.zero_le _⟩) (fun r_1 y_1 h_1 => ?_)
  refine rm_i2l hc dL_battery_8 (fun v_2 e_2 => ?_)
  refine rm_last (r := r_1) hc dL_battery_9 e_2 ?_
  refine rm_goto (tgt := 21) hc dL_battery_10 (by decide) ?_
  refine rm_iconst (v := 0) hc dL_battery_21 (by decide) ?_
  exact rm_iretW hc dL_battery_22 (by decide) (by decide) ⟨rfl, r_1, y_1, h_1, rfl⟩

set_option maxHeartbeats 4000000 in
set_option maxRecDepth 100000 in
theorem w_battery_1 {l : Launch} {D : va_G} {cy : Nat → ClassId} {ad : Ads} (hI : IJ ad) (x : Mem) (p0 p1 : Int32) (hC : Ctx l yX8_battery cX8_battery 5 (some .int) rmx_X8_battery D cy ad [.ref (ad 8 9 0), .int p0, .int p1] x "java/lang/IndexOutOfBoundsException") : Ctw l yL_battery cL_battery 5 hh_battery rmw_battery D cy ad [.ref (ad 8 9 0), .int p0, .int p1, .ref (ad 16 19 0)] x (fun r y => r = 1 ∧ y = x) := by
  refine rm_entryW hI (by decide) (Nat.le_of_ble_eq_true rfl) ?_
  intro p e s m args below meth c hc hX
  show RM _ _ _ _ _ _ _ _ _ _ _ _ _ _ _ _ _ [(0, .ref (ad 8 9 0)), (1, .int p0), (2, .int p1), (3, .ref (ad 16 19 0))] []
  refine rm_aload_n hc dL_battery_0 rfl rfl ?_
  refine rm_iconst (v := 0) hc dL_battery_1 (by decide) ?_
  refine rm_aload_n hc dL_battery_2 rfl rfl ?_
  refine rm_iload_n hc dL_battery_3 rfl rfl ?_
  refine rm_iload_n hc dL_battery_4 rfl rfl ?_
  refine rm_catV (As := [.int p0, .int p1]) (rest := [.int 0, .ref (ad 16 19 0)]) hc hX [] ⟨0, 10, 13, 13⟩ [⟨0, 10, 17, 15⟩] dL_battery_5 hC mv_L_17 dm_9 rfl rfl (hn := rfl) (hst := rfl) (hw := Nat.le_of_ble_eq_true rfl) (hR := ⟨⟨rfl, rfl⟩, Nat.le_of_ble_eq_true rfl, Nat.le_of_ble_eq_true rfl⟩) (hnc := ⟨Nat.le_of_ble_eq_true rfl, Nat.le_of_ble_eq_true rfl⟩) rfl (fun z hz => nomatch hz) (by decide) (by decide) clL_13 cbL_13 (fun q9 => ?_)
  refine rm_astore (ls' := [(0, .ref (ad 8 9 0)), (1, .int p0), (2, .int p1), (3, .ref (ad 16 19 0)), (4, .ref q9)]) hc dL_battery_13 (by decide) rfl ?_
  refine rm_iconst (v := 1) hc dL_battery_15 (by decide) ?_
  exact rm_iretW hc dL_battery_16 (by decide) (by decide) ⟨rfl, rfl⟩

set_option maxHeartbeats 4000000 in
set_option maxRecDepth 100000 in
theorem w_battery_2 {l : Launch} {D : va_G} {cy : Nat → ClassId} {ad : Ads} (hI : IJ ad) (x : Mem) (p0 p1 : Int32) (hC : Ctx l yX8_battery cX8_battery 5 (some .int) rmx_X8_battery D cy ad [.ref (ad 8 9 0), .int p0, .int p1] x "java/lang/IllegalArgumentException") : Ctw l yL_battery cL_battery 5 hh_battery rmw_battery D cy ad [.ref (ad 8 9 0), .int p0, .int p1, .ref (ad 16 19 0)] x (fun r y => r = 2 ∧ y = x) := by
  refine rm_entryW hI (by decide) (Nat.le_of_ble_eq_true rfl) ?_
  intro p e s m args below meth c hc hX
  show RM _ _ _ _ _ _ _ _ _ _ _ _ _ _ _ _ _ [(0, .ref (ad 8 9 0)), (1, .int p0), (2, .int p1), (3, .ref (ad 16 19 0))] []
  refine rm_aload_n hc dL_battery_0 rfl rfl ?_
  refine rm_iconst (v := 0) hc dL_battery_1 (by decide) ?_
  refine rm_aload_n hc dL_battery_2 rfl rfl ?_
  refine rm_iload_n hc dL_battery_3 rfl rfl ?_
  refine rm_iload_n hc dL_battery_4 rfl rfl ?_
  refine rm_catV (As := [.int p0, .int p1]) (rest := [.int 0, .ref (ad 16 19 0)]) hc hX [⟨0, 10, 13, 13⟩] ⟨0, 10, 17, 15⟩ [] dL_battery_5 hC mv_L_17 dm_9 rfl rfl (hn := rfl) (hst := rfl) (hw := Nat.le_of_ble_eq_true rfl) (hR := ⟨⟨rfl, rfl⟩, Nat.le_of_ble_eq_true rfl, Nat.le_of_ble_eq_true rfl⟩) (hnc := ⟨Nat.le_of_ble_eq_true rfl, Nat.le_of_ble_eq_true rfl⟩) rfl (fun z hz => by simp at hz; subst hz; first | exact ⟨by decide, _, clL_13, by decide +kernel⟩ | exact ⟨by decide, _, clL_15, by decide +kernel⟩) (by decide) (by decide) clL_15 cbL_15 (fun q9 => ?_)
  refine rm_astore (ls' := [(0, .ref (ad 8 9 0)), (1, .int p0), (2, .int p1), (3, .ref (ad 16 19 0)), (4, .ref q9)]) hc dL_battery_17 (by decide) rfl ?_
  refine rm_iconst (v := 2) hc dL_battery_19 (by decide) ?_
  exact rm_iretW hc dL_battery_20 (by decide) (by decide) ⟨rfl, rfl⟩

abbrev rmw_press : Room := { frames := 9, cells := 1, slots := 6, locals := 154 }
abbrev hh_press : List (Nat × Nat × Nat × Nat) := [(0, 10, 13, 13), (0, 10, 17, 15), (0, 10, 21, 24)]

set_option maxHeartbeats 4000000 in
set_option maxRecDepth 100000 in
theorem w_press {l : Launch} {D : va_G} {cy : Nat → ClassId} {ad : Ads} (hI : IJ ad) (x : Mem) (p0 p1 : Int32) {post : Int32 → Mem → Prop} (hC : Cti l yX8_press cX8_press 3 (some .int) rm_X8_press D cy ad [.ref (ad 8 9 0), .int p0, .int p1] x post) : Ctw l yL_press cL_press 5 hh_press rmw_press D cy ad [.ref (ad 8 9 0), .int p0, .int p1, .ref (ad 16 19 0)] x (fun r y => r = 0 ∧ ∃ v z, post v z ∧ y = up z 16 0 v) := by
  refine rm_entryW hI (by decide) (Nat.le_of_ble_eq_true rfl) ?_
  intro p e s m args below meth c hc hX
  show RM _ _ _ _ _ _ _ _ _ _ _ _ _ _ _ _ _ [(0, .ref (ad 8 9 0)), (1, .int p0), (2, .int p1), (3, .ref (ad 16 19 0))] []
  refine rm_aload_n hc dL_press_0 rfl rfl ?_
  refine rm_iconst (v := 0) hc dL_press_1 (by decide) ?_
  refine rm_aload_n hc dL_press_2 rfl rfl ?_
  refine rm_iload_n hc dL_press_3 rfl rfl ?_
  refine rm_iload_n hc dL_press_4 rfl rfl ?_
  refine rm_calliV (As := [.int p0, .int p1]) (rest := [.int 0, .ref (ad 16 19 0)]) hc dL_press_5 hC mv_L_21 dm_9 rfl rfl (hn := rfl) (hst := rfl) (hw := Nat.le_of_ble_eq_true rfl) (hR := ⟨⟨rfl, rfl⟩, Nat.le_of_ble_eq_true rfl, Nat.le_of_ble_eq_true rfl⟩) (hnc := ⟨Nat.zero_le _, Nat.zero_le _⟩) (fun r_1 y_1 h_1 => ?_)
  refine rm_i2l hc dL_press_8 (fun v_2 e_2 => ?_)
  refine rm_last (r := r_1) hc dL_press_9 e_2 ?_
  refine rm_goto (tgt := 25) hc dL_press_10 (by decide) ?_
  refine rm_iconst (v := 0) hc dL_press_25 (by decide) ?_
  exact rm_iretW hc dL_press_26 (by decide) (by decide) ⟨rfl, r_1, y_1, h_1, rfl⟩

set_option maxHeartbeats 4000000 in
set_option maxRecDepth 100000 in
theorem w_press_1 {l : Launch} {D : va_G} {cy : Nat → ClassId} {ad : Ads} (hI : IJ ad) (x : Mem) (p0 p1 : Int32) (hC : Ctx l yX8_press cX8_press 3 (some .int) rmx_X8_press D cy ad [.ref (ad 8 9 0), .int p0, .int p1] x "java/lang/IndexOutOfBoundsException") : Ctw l yL_press cL_press 5 hh_press rmw_press D cy ad [.ref (ad 8 9 0), .int p0, .int p1, .ref (ad 16 19 0)] x (fun r y => r = 1 ∧ y = x) := by
  refine rm_entryW hI (by decide) (Nat.le_of_ble_eq_true rfl) ?_
  intro p e s m args below meth c hc hX
  show RM _ _ _ _ _ _ _ _ _ _ _ _ _ _ _ _ _ [(0, .ref (ad 8 9 0)), (1, .int p0), (2, .int p1), (3, .ref (ad 16 19 0))] []
  refine rm_aload_n hc dL_press_0 rfl rfl ?_
  refine rm_iconst (v := 0) hc dL_press_1 (by decide) ?_
  refine rm_aload_n hc dL_press_2 rfl rfl ?_
  refine rm_iload_n hc dL_press_3 rfl rfl ?_
  refine rm_iload_n hc dL_press_4 rfl rfl ?_
  refine rm_catV (As := [.int p0, .int p1]) (rest := [.int 0, .ref (ad 16 19 0)]) hc hX [] ⟨0, 10, 13, 13⟩ [⟨0, 10, 17, 15⟩, ⟨0, 10, 21, 24⟩] dL_press_5 hC mv_L_21 dm_9 rfl rfl (hn := rfl) (hst := rfl) (hw := Nat.le_of_ble_eq_true rfl) (hR := ⟨⟨rfl, rfl⟩, Nat.le_of_ble_eq_true rfl, Nat.le_of_ble_eq_true rfl⟩) (hnc := ⟨Nat.le_of_ble_eq_true rfl, Nat.le_of_ble_eq_true rfl⟩) rfl (fun z hz => nomatch hz) (by decide) (by decide) clL_13 cbL_13 (fun q9 => ?_)
  refine rm_astore (ls' := [(0, .ref (ad 8 9 0)), (1, .int p0), (2, .int p1), (3, .ref (ad 16 19 0)), (4, .ref q9)]) hc dL_press_13 (by decide) rfl ?_
  refine rm_iconst (v := 1) hc dL_press_15 (by decide) ?_
  exact rm_iretW hc dL_press_16 (by decide) (by decide) ⟨rfl, rfl⟩

set_option maxHeartbeats 4000000 in
set_option maxRecDepth 100000 in
theorem w_press_2 {l : Launch} {D : va_G} {cy : Nat → ClassId} {ad : Ads} (hI : IJ ad) (x : Mem) (p0 p1 : Int32) (hC : Ctx l yX8_press cX8_press 3 (some .int) rmx_X8_press D cy ad [.ref (ad 8 9 0), .int p0, .int p1] x "java/lang/IllegalArgumentException") : Ctw l yL_press cL_press 5 hh_press rmw_press D cy ad [.ref (ad 8 9 0), .int p0, .int p1, .ref (ad 16 19 0)] x (fun r y => r = 2 ∧ y = x) := by
  refine rm_entryW hI (by decide) (Nat.le_of_ble_eq_true rfl) ?_
  intro p e s m args below meth c hc hX
  show RM _ _ _ _ _ _ _ _ _ _ _ _ _ _ _ _ _ [(0, .ref (ad 8 9 0)), (1, .int p0), (2, .int p1), (3, .ref (ad 16 19 0))] []
  refine rm_aload_n hc dL_press_0 rfl rfl ?_
  refine rm_iconst (v := 0) hc dL_press_1 (by decide) ?_
  refine rm_aload_n hc dL_press_2 rfl rfl ?_
  refine rm_iload_n hc dL_press_3 rfl rfl ?_
  refine rm_iload_n hc dL_press_4 rfl rfl ?_
  refine rm_catV (As := [.int p0, .int p1]) (rest := [.int 0, .ref (ad 16 19 0)]) hc hX [⟨0, 10, 13, 13⟩] ⟨0, 10, 17, 15⟩ [⟨0, 10, 21, 24⟩] dL_press_5 hC mv_L_21 dm_9 rfl rfl (hn := rfl) (hst := rfl) (hw := Nat.le_of_ble_eq_true rfl) (hR := ⟨⟨rfl, rfl⟩, Nat.le_of_ble_eq_true rfl, Nat.le_of_ble_eq_true rfl⟩) (hnc := ⟨Nat.le_of_ble_eq_true rfl, Nat.le_of_ble_eq_true rfl⟩) rfl (fun z hz => by simp at hz; subst hz; first | exact ⟨by decide, _, clL_13, by decide +kernel⟩ | exact ⟨by decide, _, clL_15, by decide +kernel⟩) (by decide) (by decide) clL_15 cbL_15 (fun q9 => ?_)
  refine rm_astore (ls' := [(0, .ref (ad 8 9 0)), (1, .int p0), (2, .int p1), (3, .ref (ad 16 19 0)), (4, .ref q9)]) hc dL_press_17 (by decide) rfl ?_
  refine rm_iconst (v := 2) hc dL_press_19 (by decide) ?_
  exact rm_iretW hc dL_press_20 (by decide) (by decide) ⟨rfl, rfl⟩

set_option maxHeartbeats 4000000 in
set_option maxRecDepth 100000 in
theorem w_press_3 {l : Launch} {D : va_G} {cy : Nat → ClassId} {ad : Ads} (hI : IJ ad) (x : Mem) (p0 p1 : Int32) (hC : Ctx l yX8_press cX8_press 3 (some .int) rmx_X8_press D cy ad [.ref (ad 8 9 0), .int p0, .int p1] x "java/lang/IllegalStateException") : Ctw l yL_press cL_press 5 hh_press rmw_press D cy ad [.ref (ad 8 9 0), .int p0, .int p1, .ref (ad 16 19 0)] x (fun r y => r = 3 ∧ y = x) := by
  refine rm_entryW hI (by decide) (Nat.le_of_ble_eq_true rfl) ?_
  intro p e s m args below meth c hc hX
  show RM _ _ _ _ _ _ _ _ _ _ _ _ _ _ _ _ _ [(0, .ref (ad 8 9 0)), (1, .int p0), (2, .int p1), (3, .ref (ad 16 19 0))] []
  refine rm_aload_n hc dL_press_0 rfl rfl ?_
  refine rm_iconst (v := 0) hc dL_press_1 (by decide) ?_
  refine rm_aload_n hc dL_press_2 rfl rfl ?_
  refine rm_iload_n hc dL_press_3 rfl rfl ?_
  refine rm_iload_n hc dL_press_4 rfl rfl ?_
  refine rm_catV (As := [.int p0, .int p1]) (rest := [.int 0, .ref (ad 16 19 0)]) hc hX [⟨0, 10, 13, 13⟩, ⟨0, 10, 17, 15⟩] ⟨0, 10, 21, 24⟩ [] dL_press_5 hC mv_L_21 dm_9 rfl rfl (hn := rfl) (hst := rfl) (hw := Nat.le_of_ble_eq_true rfl) (hR := ⟨⟨rfl, rfl⟩, Nat.le_of_ble_eq_true rfl, Nat.le_of_ble_eq_true rfl⟩) (hnc := ⟨Nat.le_of_ble_eq_true rfl, Nat.le_of_ble_eq_true rfl⟩) rfl (fun z hz => by simp at hz; rcases hz with rfl | rfl <;> first | exact ⟨by decide, _, clL_13, by decide +kernel⟩ | exact ⟨by decide, _, clL_15, by decide +kernel⟩) (by decide) (by decide) clL_24 cbL_24 (fun q9 => ?_)
  refine rm_astore (ls' := [(0, .ref (ad 8 9 0)), (1, .int p0), (2, .int p1), (3, .ref (ad 16 19 0)), (4, .ref q9)]) hc dL_press_21 (by decide) rfl ?_
  refine rm_iconst (v := 3) hc dL_press_23 (by decide) ?_
  exact rm_iretW hc dL_press_24 (by decide) (by decide) ⟨rfl, rfl⟩

abbrev rmw_again : Room := { frames := 9, cells := 1, slots := 6, locals := 154 }
abbrev hh_again : List (Nat × Nat × Nat × Nat) := [(0, 10, 13, 13), (0, 10, 17, 15)]

set_option maxHeartbeats 4000000 in
set_option maxRecDepth 100000 in
theorem w_again {l : Launch} {D : va_G} {cy : Nat → ClassId} {ad : Ads} (hI : IJ ad) (x : Mem) (p0 p1 : Int32) {post : Int32 → Mem → Prop} (hC : Cti l yX8_again cX8_again 3 (some .int) rm_X8_again D cy ad [.ref (ad 8 9 0), .int p0, .int p1] x post) : Ctw l yL_again cL_again 5 hh_again rmw_again D cy ad [.ref (ad 8 9 0), .int p0, .int p1, .ref (ad 16 19 0)] x (fun r y => r = 0 ∧ ∃ v z, post v z ∧ y = up z 16 0 v) := by
  refine rm_entryW hI (by decide) (Nat.le_of_ble_eq_true rfl) ?_
  intro p e s m args below meth c hc hX
  show RM _ _ _ _ _ _ _ _ _ _ _ _ _ _ _ _ _ [(0, .ref (ad 8 9 0)), (1, .int p0), (2, .int p1), (3, .ref (ad 16 19 0))] []
  refine rm_aload_n hc dL_again_0 rfl rfl ?_
  refine rm_iconst (v := 0) hc dL_again_1 (by decide) ?_
  refine rm_aload_n hc dL_again_2 rfl rfl ?_
  refine rm_iload_n hc dL_again_3 rfl rfl ?_
  refine rm_iload_n hc dL_again_4 rfl rfl ?_
  refine rm_calliV (As := [.int p0, .int p1]) (rest := [.int 0, .ref (ad 16 19 0)]) hc dL_again_5 hC mv_L_26 dm_9 rfl rfl (hn := rfl) (hst := rfl) (hw := Nat.le_of_ble_eq_true rfl) (hR := ⟨⟨rfl, rfl⟩, Nat.le_of_ble_eq_true rfl, Nat.le_of_ble_eq_true rfl⟩) (hnc := ⟨Nat.zero_le _, Nat.zero_le _⟩) (fun r_1 y_1 h_1 => ?_)
  refine rm_i2l hc dL_again_8 (fun v_2 e_2 => ?_)
  refine rm_last (r := r_1) hc dL_again_9 e_2 ?_
  refine rm_goto (tgt := 21) hc dL_again_10 (by decide) ?_
  refine rm_iconst (v := 0) hc dL_again_21 (by decide) ?_
  exact rm_iretW hc dL_again_22 (by decide) (by decide) ⟨rfl, r_1, y_1, h_1, rfl⟩

set_option maxHeartbeats 4000000 in
set_option maxRecDepth 100000 in
theorem w_again_1 {l : Launch} {D : va_G} {cy : Nat → ClassId} {ad : Ads} (hI : IJ ad) (x : Mem) (p0 p1 : Int32) (hC : Ctx l yX8_again cX8_again 3 (some .int) rmx_X8_again D cy ad [.ref (ad 8 9 0), .int p0, .int p1] x "java/lang/IndexOutOfBoundsException") : Ctw l yL_again cL_again 5 hh_again rmw_again D cy ad [.ref (ad 8 9 0), .int p0, .int p1, .ref (ad 16 19 0)] x (fun r y => r = 1 ∧ y = x) := by
  refine rm_entryW hI (by decide) (Nat.le_of_ble_eq_true rfl) ?_
  intro p e s m args below meth c hc hX
  show RM _ _ _ _ _ _ _ _ _ _ _ _ _ _ _ _ _ [(0, .ref (ad 8 9 0)), (1, .int p0), (2, .int p1), (3, .ref (ad 16 19 0))] []
  refine rm_aload_n hc dL_again_0 rfl rfl ?_
  refine rm_iconst (v := 0) hc dL_again_1 (by decide) ?_
  refine rm_aload_n hc dL_again_2 rfl rfl ?_
  refine rm_iload_n hc dL_again_3 rfl rfl ?_
  refine rm_iload_n hc dL_again_4 rfl rfl ?_
  refine rm_catV (As := [.int p0, .int p1]) (rest := [.int 0, .ref (ad 16 19 0)]) hc hX [] ⟨0, 10, 13, 13⟩ [⟨0, 10, 17, 15⟩] dL_again_5 hC mv_L_26 dm_9 rfl rfl (hn := rfl) (hst := rfl) (hw := Nat.le_of_ble_eq_true rfl) (hR := ⟨⟨rfl, rfl⟩, Nat.le_of_ble_eq_true rfl, Nat.le_of_ble_eq_true rfl⟩) (hnc := ⟨Nat.le_of_ble_eq_true rfl, Nat.le_of_ble_eq_true rfl⟩) rfl (fun z hz => nomatch hz) (by decide) (by decide) clL_13 cbL_13 (fun q9 => ?_)
  refine rm_astore (ls' := [(0, .ref (ad 8 9 0)), (1, .int p0), (2, .int p1), (3, .ref (ad 16 19 0)), (4, .ref q9)]) hc dL_again_13 (by decide) rfl ?_
  refine rm_iconst (v := 1) hc dL_again_15 (by decide) ?_
  exact rm_iretW hc dL_again_16 (by decide) (by decide) ⟨rfl, rfl⟩

set_option maxHeartbeats 4000000 in
set_option maxRecDepth 100000 in
theorem w_again_2 {l : Launch} {D : va_G} {cy : Nat → ClassId} {ad : Ads} (hI : IJ ad) (x : Mem) (p0 p1 : Int32) (hC : Ctx l yX8_again cX8_again 3 (some .int) rmx_X8_again D cy ad [.ref (ad 8 9 0), .int p0, .int p1] x "java/lang/IllegalArgumentException") : Ctw l yL_again cL_again 5 hh_again rmw_again D cy ad [.ref (ad 8 9 0), .int p0, .int p1, .ref (ad 16 19 0)] x (fun r y => r = 2 ∧ y = x) := by
  refine rm_entryW hI (by decide) (Nat.le_of_ble_eq_true rfl) ?_
  intro p e s m args below meth c hc hX
  show RM _ _ _ _ _ _ _ _ _ _ _ _ _ _ _ _ _ [(0, .ref (ad 8 9 0)), (1, .int p0), (2, .int p1), (3, .ref (ad 16 19 0))] []
  refine rm_aload_n hc dL_again_0 rfl rfl ?_
  refine rm_iconst (v := 0) hc dL_again_1 (by decide) ?_
  refine rm_aload_n hc dL_again_2 rfl rfl ?_
  refine rm_iload_n hc dL_again_3 rfl rfl ?_
  refine rm_iload_n hc dL_again_4 rfl rfl ?_
  refine rm_catV (As := [.int p0, .int p1]) (rest := [.int 0, .ref (ad 16 19 0)]) hc hX [⟨0, 10, 13, 13⟩] ⟨0, 10, 17, 15⟩ [] dL_again_5 hC mv_L_26 dm_9 rfl rfl (hn := rfl) (hst := rfl) (hw := Nat.le_of_ble_eq_true rfl) (hR := ⟨⟨rfl, rfl⟩, Nat.le_of_ble_eq_true rfl, Nat.le_of_ble_eq_true rfl⟩) (hnc := ⟨Nat.le_of_ble_eq_true rfl, Nat.le_of_ble_eq_true rfl⟩) rfl (fun z hz => by simp at hz; subst hz; first | exact ⟨by decide, _, clL_13, by decide +kernel⟩ | exact ⟨by decide, _, clL_15, by decide +kernel⟩) (by decide) (by decide) clL_15 cbL_15 (fun q9 => ?_)
  refine rm_astore (ls' := [(0, .ref (ad 8 9 0)), (1, .int p0), (2, .int p1), (3, .ref (ad 16 19 0)), (4, .ref q9)]) hc dL_again_17 (by decide) rfl ?_
  refine rm_iconst (v := 2) hc dL_again_19 (by decide) ?_
  exact rm_iretW hc dL_again_20 (by decide) (by decide) ⟨rfl, rfl⟩

abbrev rmw_learn : Room := { frames := 8, cells := 1, slots := 6, locals := 135 }
abbrev hh_learn : List (Nat × Nat × Nat × Nat) := [(0, 12, 15, 13)]

set_option maxHeartbeats 4000000 in
set_option maxRecDepth 100000 in
theorem w_learn {l : Launch} {D : va_G} {cy : Nat → ClassId} {ad : Ads} (hI : IJ ad) (x : Mem) (p0 p1 p2 : Int32) {post : Int32 → Mem → Prop} (hC : Cti l yX8_learn cX8_learn 5 (some .int) rm_X8_learn D cy ad [.ref (ad 8 9 0), .int p0, .int p1, .int p2] x post) : Ctw l yL_learn cL_learn 6 hh_learn rmw_learn D cy ad [.ref (ad 8 9 0), .int p0, .int p1, .int p2, .ref (ad 16 19 0)] x (fun r y => r = 0 ∧ ∃ v z, post v z ∧ y = up z 16 0 v) := by
  refine rm_entryW hI (by decide) (Nat.le_of_ble_eq_true rfl) ?_
  intro p e s m args below meth c hc hX
  show RM _ _ _ _ _ _ _ _ _ _ _ _ _ _ _ _ _ [(0, .ref (ad 8 9 0)), (1, .int p0), (2, .int p1), (3, .int p2), (4, .ref (ad 16 19 0))] []
  refine rm_aload hc dL_learn_0 rfl ?_
  refine rm_iconst (v := 0) hc dL_learn_2 (by decide) ?_
  refine rm_aload_n hc dL_learn_3 rfl rfl ?_
  refine rm_iload_n hc dL_learn_4 rfl rfl ?_
  refine rm_iload_n hc dL_learn_5 rfl rfl ?_
  refine rm_iload_n hc dL_learn_6 rfl rfl ?_
  refine rm_calliV (As := [.int p0, .int p1, .int p2]) (rest := [.int 0, .ref (ad 16 19 0)]) hc dL_learn_7 hC mv_L_29 dm_9 rfl rfl (hn := rfl) (hst := rfl) (hw := Nat.le_of_ble_eq_true rfl) (hR := ⟨⟨rfl, rfl⟩, Nat.le_of_ble_eq_true rfl, Nat.le_of_ble_eq_true rfl⟩) (hnc := ⟨Nat.zero_le _, Nat.zero_le _⟩) (fun r_1 y_1 h_1 => ?_)
  refine rm_i2l hc dL_learn_10 (fun v_2 e_2 => ?_)
  refine rm_last (r := r_1) hc dL_learn_11 e_2 ?_
  refine rm_goto (tgt := 19) hc dL_learn_12 (by decide) ?_
  refine rm_iconst (v := 0) hc dL_learn_19 (by decide) ?_
  exact rm_iretW hc dL_learn_20 (by decide) (by decide) ⟨rfl, r_1, y_1, h_1, rfl⟩

set_option maxHeartbeats 4000000 in
set_option maxRecDepth 100000 in
theorem w_learn_1 {l : Launch} {D : va_G} {cy : Nat → ClassId} {ad : Ads} (hI : IJ ad) (x : Mem) (p0 p1 p2 : Int32) (hC : Ctx l yX8_learn cX8_learn 5 (some .int) rmx_X8_learn D cy ad [.ref (ad 8 9 0), .int p0, .int p1, .int p2] x "java/lang/IndexOutOfBoundsException") : Ctw l yL_learn cL_learn 6 hh_learn rmw_learn D cy ad [.ref (ad 8 9 0), .int p0, .int p1, .int p2, .ref (ad 16 19 0)] x (fun r y => r = 1 ∧ y = x) := by
  refine rm_entryW hI (by decide) (Nat.le_of_ble_eq_true rfl) ?_
  intro p e s m args below meth c hc hX
  show RM _ _ _ _ _ _ _ _ _ _ _ _ _ _ _ _ _ [(0, .ref (ad 8 9 0)), (1, .int p0), (2, .int p1), (3, .int p2), (4, .ref (ad 16 19 0))] []
  refine rm_aload hc dL_learn_0 rfl ?_
  refine rm_iconst (v := 0) hc dL_learn_2 (by decide) ?_
  refine rm_aload_n hc dL_learn_3 rfl rfl ?_
  refine rm_iload_n hc dL_learn_4 rfl rfl ?_
  refine rm_iload_n hc dL_learn_5 rfl rfl ?_
  refine rm_iload_n hc dL_learn_6 rfl rfl ?_
  refine rm_catV (As := [.int p0, .int p1, .int p2]) (rest := [.int 0, .ref (ad 16 19 0)]) hc hX [] ⟨0, 12, 15, 13⟩ [] dL_learn_7 hC mv_L_29 dm_9 rfl rfl (hn := rfl) (hst := rfl) (hw := Nat.le_of_ble_eq_true rfl) (hR := ⟨⟨rfl, rfl⟩, Nat.le_of_ble_eq_true rfl, Nat.le_of_ble_eq_true rfl⟩) (hnc := ⟨Nat.le_of_ble_eq_true rfl, Nat.le_of_ble_eq_true rfl⟩) rfl (fun z hz => nomatch hz) (by decide) (by decide) clL_13 cbL_13 (fun q9 => ?_)
  refine rm_astore (ls' := [(0, .ref (ad 8 9 0)), (1, .int p0), (2, .int p1), (3, .int p2), (4, .ref (ad 16 19 0)), (5, .ref q9)]) hc dL_learn_15 (by decide) rfl ?_
  refine rm_iconst (v := 1) hc dL_learn_17 (by decide) ?_
  exact rm_iretW hc dL_learn_18 (by decide) (by decide) ⟨rfl, rfl⟩

abbrev rmw_forget : Room := { frames := 8, cells := 1, slots := 6, locals := 135 }
abbrev hh_forget : List (Nat × Nat × Nat × Nat) := [(0, 10, 13, 13)]

set_option maxHeartbeats 4000000 in
set_option maxRecDepth 100000 in
theorem w_forget {l : Launch} {D : va_G} {cy : Nat → ClassId} {ad : Ads} (hI : IJ ad) (x : Mem) (p0 p1 : Int32) {post : Int32 → Mem → Prop} (hC : Cti l yX8_forget cX8_forget 5 (some .int) rm_X8_forget D cy ad [.ref (ad 8 9 0), .int p0, .int p1] x post) : Ctw l yL_forget cL_forget 5 hh_forget rmw_forget D cy ad [.ref (ad 8 9 0), .int p0, .int p1, .ref (ad 16 19 0)] x (fun r y => r = 0 ∧ ∃ v z, post v z ∧ y = up z 16 0 v) := by
  refine rm_entryW hI (by decide) (Nat.le_of_ble_eq_true rfl) ?_
  intro p e s m args below meth c hc hX
  show RM _ _ _ _ _ _ _ _ _ _ _ _ _ _ _ _ _ [(0, .ref (ad 8 9 0)), (1, .int p0), (2, .int p1), (3, .ref (ad 16 19 0))] []
  refine rm_aload_n hc dL_forget_0 rfl rfl ?_
  refine rm_iconst (v := 0) hc dL_forget_1 (by decide) ?_
  refine rm_aload_n hc dL_forget_2 rfl rfl ?_
  refine rm_iload_n hc dL_forget_3 rfl rfl ?_
  refine rm_iload_n hc dL_forget_4 rfl rfl ?_
  refine rm_calliV (As := [.int p0, .int p1]) (rest := [.int 0, .ref (ad 16 19 0)]) hc dL_forget_5 hC mv_L_32 dm_9 rfl rfl (hn := rfl) (hst := rfl) (hw := Nat.le_of_ble_eq_true rfl) (hR := ⟨⟨rfl, rfl⟩, Nat.le_of_ble_eq_true rfl, Nat.le_of_ble_eq_true rfl⟩) (hnc := ⟨Nat.zero_le _, Nat.zero_le _⟩) (fun r_1 y_1 h_1 => ?_)
  refine rm_i2l hc dL_forget_8 (fun v_2 e_2 => ?_)
  refine rm_last (r := r_1) hc dL_forget_9 e_2 ?_
  refine rm_goto (tgt := 17) hc dL_forget_10 (by decide) ?_
  refine rm_iconst (v := 0) hc dL_forget_17 (by decide) ?_
  exact rm_iretW hc dL_forget_18 (by decide) (by decide) ⟨rfl, r_1, y_1, h_1, rfl⟩

set_option maxHeartbeats 4000000 in
set_option maxRecDepth 100000 in
theorem w_forget_1 {l : Launch} {D : va_G} {cy : Nat → ClassId} {ad : Ads} (hI : IJ ad) (x : Mem) (p0 p1 : Int32) (hC : Ctx l yX8_forget cX8_forget 5 (some .int) rmx_X8_forget D cy ad [.ref (ad 8 9 0), .int p0, .int p1] x "java/lang/IndexOutOfBoundsException") : Ctw l yL_forget cL_forget 5 hh_forget rmw_forget D cy ad [.ref (ad 8 9 0), .int p0, .int p1, .ref (ad 16 19 0)] x (fun r y => r = 1 ∧ y = x) := by
  refine rm_entryW hI (by decide) (Nat.le_of_ble_eq_true rfl) ?_
  intro p e s m args below meth c hc hX
  show RM _ _ _ _ _ _ _ _ _ _ _ _ _ _ _ _ _ [(0, .ref (ad 8 9 0)), (1, .int p0), (2, .int p1), (3, .ref (ad 16 19 0))] []
  refine rm_aload_n hc dL_forget_0 rfl rfl ?_
  refine rm_iconst (v := 0) hc dL_forget_1 (by decide) ?_
  refine rm_aload_n hc dL_forget_2 rfl rfl ?_
  refine rm_iload_n hc dL_forget_3 rfl rfl ?_
  refine rm_iload_n hc dL_forget_4 rfl rfl ?_
  refine rm_catV (As := [.int p0, .int p1]) (rest := [.int 0, .ref (ad 16 19 0)]) hc hX [] ⟨0, 10, 13, 13⟩ [] dL_forget_5 hC mv_L_32 dm_9 rfl rfl (hn := rfl) (hst := rfl) (hw := Nat.le_of_ble_eq_true rfl) (hR := ⟨⟨rfl, rfl⟩, Nat.le_of_ble_eq_true rfl, Nat.le_of_ble_eq_true rfl⟩) (hnc := ⟨Nat.le_of_ble_eq_true rfl, Nat.le_of_ble_eq_true rfl⟩) rfl (fun z hz => nomatch hz) (by decide) (by decide) clL_13 cbL_13 (fun q9 => ?_)
  refine rm_astore (ls' := [(0, .ref (ad 8 9 0)), (1, .int p0), (2, .int p1), (3, .ref (ad 16 19 0)), (4, .ref q9)]) hc dL_forget_13 (by decide) rfl ?_
  refine rm_iconst (v := 1) hc dL_forget_15 (by decide) ?_
  exact rm_iretW hc dL_forget_16 (by decide) (by decide) ⟨rfl, rfl⟩

abbrev rmw_shut : Room := { frames := 8, cells := 1, slots := 6, locals := 134 }
abbrev hh_shut : List (Nat × Nat × Nat × Nat) := [(0, 9, 12, 13)]

set_option maxHeartbeats 4000000 in
set_option maxRecDepth 100000 in
theorem w_shut {l : Launch} {D : va_G} {cy : Nat → ClassId} {ad : Ads} (hI : IJ ad) (x : Mem) (p0 : Int32) {post : Int32 → Mem → Prop} (hC : Cti l yX8_shut cX8_shut 4 (some .int) rm_X8_shut D cy ad [.ref (ad 8 9 0), .int p0] x post) : Ctw l yL_shut cL_shut 4 hh_shut rmw_shut D cy ad [.ref (ad 8 9 0), .int p0, .ref (ad 16 19 0)] x (fun r y => r = 0 ∧ ∃ v z, post v z ∧ y = up z 16 0 v) := by
  refine rm_entryW hI (by decide) (Nat.le_of_ble_eq_true rfl) ?_
  intro p e s m args below meth c hc hX
  show RM _ _ _ _ _ _ _ _ _ _ _ _ _ _ _ _ _ [(0, .ref (ad 8 9 0)), (1, .int p0), (2, .ref (ad 16 19 0))] []
  refine rm_aload_n hc dL_shut_0 rfl rfl ?_
  refine rm_iconst (v := 0) hc dL_shut_1 (by decide) ?_
  refine rm_aload_n hc dL_shut_2 rfl rfl ?_
  refine rm_iload_n hc dL_shut_3 rfl rfl ?_
  refine rm_calliV (As := [.int p0]) (rest := [.int 0, .ref (ad 16 19 0)]) hc dL_shut_4 hC mv_L_35 dm_9 rfl rfl (hn := rfl) (hst := rfl) (hw := Nat.le_of_ble_eq_true rfl) (hR := ⟨⟨rfl, rfl⟩, Nat.le_of_ble_eq_true rfl, Nat.le_of_ble_eq_true rfl⟩) (hnc := ⟨Nat.zero_le _, Nat.zero_le _⟩) (fun r_1 y_1 h_1 => ?_)
  refine rm_i2l hc dL_shut_7 (fun v_2 e_2 => ?_)
  refine rm_last (r := r_1) hc dL_shut_8 e_2 ?_
  refine rm_goto (tgt := 15) hc dL_shut_9 (by decide) ?_
  refine rm_iconst (v := 0) hc dL_shut_15 (by decide) ?_
  exact rm_iretW hc dL_shut_16 (by decide) (by decide) ⟨rfl, r_1, y_1, h_1, rfl⟩

set_option maxHeartbeats 4000000 in
set_option maxRecDepth 100000 in
theorem w_shut_1 {l : Launch} {D : va_G} {cy : Nat → ClassId} {ad : Ads} (hI : IJ ad) (x : Mem) (p0 : Int32) (hC : Ctx l yX8_shut cX8_shut 4 (some .int) rmx_X8_shut D cy ad [.ref (ad 8 9 0), .int p0] x "java/lang/IndexOutOfBoundsException") : Ctw l yL_shut cL_shut 4 hh_shut rmw_shut D cy ad [.ref (ad 8 9 0), .int p0, .ref (ad 16 19 0)] x (fun r y => r = 1 ∧ y = x) := by
  refine rm_entryW hI (by decide) (Nat.le_of_ble_eq_true rfl) ?_
  intro p e s m args below meth c hc hX
  show RM _ _ _ _ _ _ _ _ _ _ _ _ _ _ _ _ _ [(0, .ref (ad 8 9 0)), (1, .int p0), (2, .ref (ad 16 19 0))] []
  refine rm_aload_n hc dL_shut_0 rfl rfl ?_
  refine rm_iconst (v := 0) hc dL_shut_1 (by decide) ?_
  refine rm_aload_n hc dL_shut_2 rfl rfl ?_
  refine rm_iload_n hc dL_shut_3 rfl rfl ?_
  refine rm_catV (As := [.int p0]) (rest := [.int 0, .ref (ad 16 19 0)]) hc hX [] ⟨0, 9, 12, 13⟩ [] dL_shut_4 hC mv_L_35 dm_9 rfl rfl (hn := rfl) (hst := rfl) (hw := Nat.le_of_ble_eq_true rfl) (hR := ⟨⟨rfl, rfl⟩, Nat.le_of_ble_eq_true rfl, Nat.le_of_ble_eq_true rfl⟩) (hnc := ⟨Nat.le_of_ble_eq_true rfl, Nat.le_of_ble_eq_true rfl⟩) rfl (fun z hz => nomatch hz) (by decide) (by decide) clL_13 cbL_13 (fun q9 => ?_)
  refine rm_astore_n (ls' := [(0, .ref (ad 8 9 0)), (1, .int p0), (2, .ref (ad 16 19 0)), (3, .ref q9)]) hc dL_shut_12 rfl (by decide) rfl ?_
  refine rm_iconst (v := 1) hc dL_shut_13 (by decide) ?_
  exact rm_iretW hc dL_shut_14 (by decide) (by decide) ⟨rfl, rfl⟩

abbrev rmw_unlock : Room := { frames := 8, cells := 1, slots := 6, locals := 134 }
abbrev hh_unlock : List (Nat × Nat × Nat × Nat) := [(0, 9, 12, 13)]

set_option maxHeartbeats 4000000 in
set_option maxRecDepth 100000 in
theorem w_unlock {l : Launch} {D : va_G} {cy : Nat → ClassId} {ad : Ads} (hI : IJ ad) (x : Mem) (p0 : Int32) {post : Int32 → Mem → Prop} (hC : Cti l yX8_unlock cX8_unlock 4 (some .int) rm_X8_unlock D cy ad [.ref (ad 8 9 0), .int p0] x post) : Ctw l yL_unlock cL_unlock 4 hh_unlock rmw_unlock D cy ad [.ref (ad 8 9 0), .int p0, .ref (ad 16 19 0)] x (fun r y => r = 0 ∧ ∃ v z, post v z ∧ y = up z 16 0 v) := by
  refine rm_entryW hI (by decide) (Nat.le_of_ble_eq_true rfl) ?_
  intro p e s m args below meth c hc hX
  show RM _ _ _ _ _ _ _ _ _ _ _ _ _ _ _ _ _ [(0, .ref (ad 8 9 0)), (1, .int p0), (2, .ref (ad 16 19 0))] []
  refine rm_aload_n hc dL_unlock_0 rfl rfl ?_
  refine rm_iconst (v := 0) hc dL_unlock_1 (by decide) ?_
  refine rm_aload_n hc dL_unlock_2 rfl rfl ?_
  refine rm_iload_n hc dL_unlock_3 rfl rfl ?_
  refine rm_calliV (As := [.int p0]) (rest := [.int 0, .ref (ad 16 19 0)]) hc dL_unlock_4 hC mv_L_39 dm_9 rfl rfl (hn := rfl) (hst := rfl) (hw := Nat.le_of_ble_eq_true rfl) (hR := ⟨⟨rfl, rfl⟩, Nat.le_of_ble_eq_true rfl, Nat.le_of_ble_eq_true rfl⟩) (hnc := ⟨Nat.zero_le _, Nat.zero_le _⟩) (fun r_1 y_1 h_1 => ?_)
  refine rm_i2l hc dL_unlock_7 (fun v_2 e_2 => ?_)
  refine rm_last (r := r_1) hc dL_unlock_8 e_2 ?_
  refine rm_goto (tgt := 15) hc dL_unlock_9 (by decide) ?_
  refine rm_iconst (v := 0) hc dL_unlock_15 (by decide) ?_
  exact rm_iretW hc dL_unlock_16 (by decide) (by decide) ⟨rfl, r_1, y_1, h_1, rfl⟩

set_option maxHeartbeats 4000000 in
set_option maxRecDepth 100000 in
theorem w_unlock_1 {l : Launch} {D : va_G} {cy : Nat → ClassId} {ad : Ads} (hI : IJ ad) (x : Mem) (p0 : Int32) (hC : Ctx l yX8_unlock cX8_unlock 4 (some .int) rmx_X8_unlock D cy ad [.ref (ad 8 9 0), .int p0] x "java/lang/IndexOutOfBoundsException") : Ctw l yL_unlock cL_unlock 4 hh_unlock rmw_unlock D cy ad [.ref (ad 8 9 0), .int p0, .ref (ad 16 19 0)] x (fun r y => r = 1 ∧ y = x) := by
  refine rm_entryW hI (by decide) (Nat.le_of_ble_eq_true rfl) ?_
  intro p e s m args below meth c hc hX
  show RM _ _ _ _ _ _ _ _ _ _ _ _ _ _ _ _ _ [(0, .ref (ad 8 9 0)), (1, .int p0), (2, .ref (ad 16 19 0))] []
  refine rm_aload_n hc dL_unlock_0 rfl rfl ?_
  refine rm_iconst (v := 0) hc dL_unlock_1 (by decide) ?_
  refine rm_aload_n hc dL_unlock_2 rfl rfl ?_
  refine rm_iload_n hc dL_unlock_3 rfl rfl ?_
  refine rm_catV (As := [.int p0]) (rest := [.int 0, .ref (ad 16 19 0)]) hc hX [] ⟨0, 9, 12, 13⟩ [] dL_unlock_4 hC mv_L_39 dm_9 rfl rfl (hn := rfl) (hst := rfl) (hw := Nat.le_of_ble_eq_true rfl) (hR := ⟨⟨rfl, rfl⟩, Nat.le_of_ble_eq_true rfl, Nat.le_of_ble_eq_true rfl⟩) (hnc := ⟨Nat.le_of_ble_eq_true rfl, Nat.le_of_ble_eq_true rfl⟩) rfl (fun z hz => nomatch hz) (by decide) (by decide) clL_13 cbL_13 (fun q9 => ?_)
  refine rm_astore_n (ls' := [(0, .ref (ad 8 9 0)), (1, .int p0), (2, .ref (ad 16 19 0)), (3, .ref q9)]) hc dL_unlock_12 rfl (by decide) rfl ?_
  refine rm_iconst (v := 1) hc dL_unlock_13 (by decide) ?_
  exact rm_iretW hc dL_unlock_14 (by decide) (by decide) ⟨rfl, rfl⟩

abbrev rmw_set : Room := { frames := 9, cells := 1, slots := 6, locals := 155 }
abbrev hh_set : List (Nat × Nat × Nat × Nat) := [(0, 10, 13, 13), (0, 10, 17, 15)]

set_option maxHeartbeats 4000000 in
set_option maxRecDepth 100000 in
theorem w_set {l : Launch} {D : va_G} {cy : Nat → ClassId} {ad : Ads} (hI : IJ ad) (x : Mem) (p0 p1 : Int32) {post : Int32 → Mem → Prop} (hC : Cti l yX8_set cX8_set 4 (some .int) rm_X8_set D cy ad [.ref (ad 8 9 0), .int p0, .int p1] x post) : Ctw l yL_set cL_set 5 hh_set rmw_set D cy ad [.ref (ad 8 9 0), .int p0, .int p1, .ref (ad 16 19 0)] x (fun r y => r = 0 ∧ ∃ v z, post v z ∧ y = up z 16 0 v) := by
  refine rm_entryW hI (by decide) (Nat.le_of_ble_eq_true rfl) ?_
  intro p e s m args below meth c hc hX
  show RM _ _ _ _ _ _ _ _ _ _ _ _ _ _ _ _ _ [(0, .ref (ad 8 9 0)), (1, .int p0), (2, .int p1), (3, .ref (ad 16 19 0))] []
  refine rm_aload_n hc dL_set_0 rfl rfl ?_
  refine rm_iconst (v := 0) hc dL_set_1 (by decide) ?_
  refine rm_aload_n hc dL_set_2 rfl rfl ?_
  refine rm_iload_n hc dL_set_3 rfl rfl ?_
  refine rm_iload_n hc dL_set_4 rfl rfl ?_
  refine rm_calliV (As := [.int p0, .int p1]) (rest := [.int 0, .ref (ad 16 19 0)]) hc dL_set_5 hC mv_L_42 dm_9 rfl rfl (hn := rfl) (hst := rfl) (hw := Nat.le_of_ble_eq_true rfl) (hR := ⟨⟨rfl, rfl⟩, Nat.le_of_ble_eq_true rfl, Nat.le_of_ble_eq_true rfl⟩) (hnc := ⟨Nat.zero_le _, Nat.zero_le _⟩) (fun r_1 y_1 h_1 => ?_)
  refine rm_i2l hc dL_set_8 (fun v_2 e_2 => ?_)
  refine rm_last (r := r_1) hc dL_set_9 e_2 ?_
  refine rm_goto (tgt := 21) hc dL_set_10 (by decide) ?_
  refine rm_iconst (v := 0) hc dL_set_21 (by decide) ?_
  exact rm_iretW hc dL_set_22 (by decide) (by decide) ⟨rfl, r_1, y_1, h_1, rfl⟩

set_option maxHeartbeats 4000000 in
set_option maxRecDepth 100000 in
theorem w_set_1 {l : Launch} {D : va_G} {cy : Nat → ClassId} {ad : Ads} (hI : IJ ad) (x : Mem) (p0 p1 : Int32) (hC : Ctx l yX8_set cX8_set 4 (some .int) rmx_X8_set D cy ad [.ref (ad 8 9 0), .int p0, .int p1] x "java/lang/IndexOutOfBoundsException") : Ctw l yL_set cL_set 5 hh_set rmw_set D cy ad [.ref (ad 8 9 0), .int p0, .int p1, .ref (ad 16 19 0)] x (fun r y => r = 1 ∧ y = x) := by
  refine rm_entryW hI (by decide) (Nat.le_of_ble_eq_true rfl) ?_
  intro p e s m args below meth c hc hX
  show RM _ _ _ _ _ _ _ _ _ _ _ _ _ _ _ _ _ [(0, .ref (ad 8 9 0)), (1, .int p0), (2, .int p1), (3, .ref (ad 16 19 0))] []
  refine rm_aload_n hc dL_set_0 rfl rfl ?_
  refine rm_iconst (v := 0) hc dL_set_1 (by decide) ?_
  refine rm_aload_n hc dL_set_2 rfl rfl ?_
  refine rm_iload_n hc dL_set_3 rfl rfl ?_
  refine rm_iload_n hc dL_set_4 rfl rfl ?_
  refine rm_catV (As := [.int p0, .int p1]) (rest := [.int 0, .ref (ad 16 19 0)]) hc hX [] ⟨0, 10, 13, 13⟩ [⟨0, 10, 17, 15⟩] dL_set_5 hC mv_L_42 dm_9 rfl rfl (hn := rfl) (hst := rfl) (hw := Nat.le_of_ble_eq_true rfl) (hR := ⟨⟨rfl, rfl⟩, Nat.le_of_ble_eq_true rfl, Nat.le_of_ble_eq_true rfl⟩) (hnc := ⟨Nat.le_of_ble_eq_true rfl, Nat.le_of_ble_eq_true rfl⟩) rfl (fun z hz => nomatch hz) (by decide) (by decide) clL_13 cbL_13 (fun q9 => ?_)
  refine rm_astore (ls' := [(0, .ref (ad 8 9 0)), (1, .int p0), (2, .int p1), (3, .ref (ad 16 19 0)), (4, .ref q9)]) hc dL_set_13 (by decide) rfl ?_
  refine rm_iconst (v := 1) hc dL_set_15 (by decide) ?_
  exact rm_iretW hc dL_set_16 (by decide) (by decide) ⟨rfl, rfl⟩

set_option maxHeartbeats 4000000 in
set_option maxRecDepth 100000 in
theorem w_set_2 {l : Launch} {D : va_G} {cy : Nat → ClassId} {ad : Ads} (hI : IJ ad) (x : Mem) (p0 p1 : Int32) (hC : Ctx l yX8_set cX8_set 4 (some .int) rmx_X8_set D cy ad [.ref (ad 8 9 0), .int p0, .int p1] x "java/lang/IllegalArgumentException") : Ctw l yL_set cL_set 5 hh_set rmw_set D cy ad [.ref (ad 8 9 0), .int p0, .int p1, .ref (ad 16 19 0)] x (fun r y => r = 2 ∧ y = x) := by
  refine rm_entryW hI (by decide) (Nat.le_of_ble_eq_true rfl) ?_
  intro p e s m args below meth c hc hX
  show RM _ _ _ _ _ _ _ _ _ _ _ _ _ _ _ _ _ [(0, .ref (ad 8 9 0)), (1, .int p0), (2, .int p1), (3, .ref (ad 16 19 0))] []
  refine rm_aload_n hc dL_set_0 rfl rfl ?_
  refine rm_iconst (v := 0) hc dL_set_1 (by decide) ?_
  refine rm_aload_n hc dL_set_2 rfl rfl ?_
  refine rm_iload_n hc dL_set_3 rfl rfl ?_
  refine rm_iload_n hc dL_set_4 rfl rfl ?_
  refine rm_catV (As := [.int p0, .int p1]) (rest := [.int 0, .ref (ad 16 19 0)]) hc hX [⟨0, 10, 13, 13⟩] ⟨0, 10, 17, 15⟩ [] dL_set_5 hC mv_L_42 dm_9 rfl rfl (hn := rfl) (hst := rfl) (hw := Nat.le_of_ble_eq_true rfl) (hR := ⟨⟨rfl, rfl⟩, Nat.le_of_ble_eq_true rfl, Nat.le_of_ble_eq_true rfl⟩) (hnc := ⟨Nat.le_of_ble_eq_true rfl, Nat.le_of_ble_eq_true rfl⟩) rfl (fun z hz => by simp at hz; subst hz; first | exact ⟨by decide, _, clL_13, by decide +kernel⟩ | exact ⟨by decide, _, clL_15, by decide +kernel⟩) (by decide) (by decide) clL_15 cbL_15 (fun q9 => ?_)
  refine rm_astore (ls' := [(0, .ref (ad 8 9 0)), (1, .int p0), (2, .int p1), (3, .ref (ad 16 19 0)), (4, .ref q9)]) hc dL_set_17 (by decide) rfl ?_
  refine rm_iconst (v := 2) hc dL_set_19 (by decide) ?_
  exact rm_iretW hc dL_set_20 (by decide) (by decide) ⟨rfl, rfl⟩

abbrev rmw_append : Room := { frames := 9, cells := 1, slots := 6, locals := 153 }
abbrev hh_append : List (Nat × Nat × Nat × Nat) := [(0, 9, 12, 15), (0, 9, 15, 24)]

set_option maxHeartbeats 4000000 in
set_option maxRecDepth 100000 in
theorem w_append {l : Launch} {D : va_G} {cy : Nat → ClassId} {ad : Ads} (hI : IJ ad) (x : Mem) (p0 : Int32) {post : Int32 → Mem → Prop} (hC : Cti l yX8_append cX8_append 2 (some .int) rm_X8_append D cy ad [.ref (ad 8 9 0), .int p0] x post) : Ctw l yL_append cL_append 4 hh_append rmw_append D cy ad [.ref (ad 8 9 0), .int p0, .ref (ad 16 19 0)] x (fun r y => r = 0 ∧ ∃ v z, post v z ∧ y = up z 16 0 v) := by
  refine rm_entryW hI (by decide) (Nat.le_of_ble_eq_true rfl) ?_
  intro p e s m args below meth c hc hX
  show RM _ _ _ _ _ _ _ _ _ _ _ _ _ _ _ _ _ [(0, .ref (ad 8 9 0)), (1, .int p0), (2, .ref (ad 16 19 0))] []
  refine rm_aload_n hc dL_append_0 rfl rfl ?_
  refine rm_iconst (v := 0) hc dL_append_1 (by decide) ?_
  refine rm_aload_n hc dL_append_2 rfl rfl ?_
  refine rm_iload_n hc dL_append_3 rfl rfl ?_
  refine rm_calliV (As := [.int p0]) (rest := [.int 0, .ref (ad 16 19 0)]) hc dL_append_4 hC mv_L_45 dm_9 rfl rfl (hn := rfl) (hst := rfl) (hw := Nat.le_of_ble_eq_true rfl) (hR := ⟨⟨rfl, rfl⟩, Nat.le_of_ble_eq_true rfl, Nat.le_of_ble_eq_true rfl⟩) (hnc := ⟨Nat.zero_le _, Nat.zero_le _⟩) (fun r_1 y_1 h_1 => ?_)
  refine rm_i2l hc dL_append_7 (fun v_2 e_2 => ?_)
  refine rm_last (r := r_1) hc dL_append_8 e_2 ?_
  refine rm_goto (tgt := 18) hc dL_append_9 (by decide) ?_
  refine rm_iconst (v := 0) hc dL_append_18 (by decide) ?_
  exact rm_iretW hc dL_append_19 (by decide) (by decide) ⟨rfl, r_1, y_1, h_1, rfl⟩

set_option maxHeartbeats 4000000 in
set_option maxRecDepth 100000 in
theorem w_append_1 {l : Launch} {D : va_G} {cy : Nat → ClassId} {ad : Ads} (hI : IJ ad) (x : Mem) (p0 : Int32) (hC : Ctx l yX8_append cX8_append 2 (some .int) rmx_X8_append D cy ad [.ref (ad 8 9 0), .int p0] x "java/lang/IllegalArgumentException") : Ctw l yL_append cL_append 4 hh_append rmw_append D cy ad [.ref (ad 8 9 0), .int p0, .ref (ad 16 19 0)] x (fun r y => r = 1 ∧ y = x) := by
  refine rm_entryW hI (by decide) (Nat.le_of_ble_eq_true rfl) ?_
  intro p e s m args below meth c hc hX
  show RM _ _ _ _ _ _ _ _ _ _ _ _ _ _ _ _ _ [(0, .ref (ad 8 9 0)), (1, .int p0), (2, .ref (ad 16 19 0))] []
  refine rm_aload_n hc dL_append_0 rfl rfl ?_
  refine rm_iconst (v := 0) hc dL_append_1 (by decide) ?_
  refine rm_aload_n hc dL_append_2 rfl rfl ?_
  refine rm_iload_n hc dL_append_3 rfl rfl ?_
  refine rm_catV (As := [.int p0]) (rest := [.int 0, .ref (ad 16 19 0)]) hc hX [] ⟨0, 9, 12, 15⟩ [⟨0, 9, 15, 24⟩] dL_append_4 hC mv_L_45 dm_9 rfl rfl (hn := rfl) (hst := rfl) (hw := Nat.le_of_ble_eq_true rfl) (hR := ⟨⟨rfl, rfl⟩, Nat.le_of_ble_eq_true rfl, Nat.le_of_ble_eq_true rfl⟩) (hnc := ⟨Nat.le_of_ble_eq_true rfl, Nat.le_of_ble_eq_true rfl⟩) rfl (fun z hz => nomatch hz) (by decide) (by decide) clL_15 cbL_15 (fun q9 => ?_)
  refine rm_astore_n (ls' := [(0, .ref (ad 8 9 0)), (1, .int p0), (2, .ref (ad 16 19 0)), (3, .ref q9)]) hc dL_append_12 rfl (by decide) rfl ?_
  refine rm_iconst (v := 1) hc dL_append_13 (by decide) ?_
  exact rm_iretW hc dL_append_14 (by decide) (by decide) ⟨rfl, rfl⟩

set_option maxHeartbeats 4000000 in
set_option maxRecDepth 100000 in
theorem w_append_2 {l : Launch} {D : va_G} {cy : Nat → ClassId} {ad : Ads} (hI : IJ ad) (x : Mem) (p0 : Int32) (hC : Ctx l yX8_append cX8_append 2 (some .int) rmx_X8_append D cy ad [.ref (ad 8 9 0), .int p0] x "java/lang/IllegalStateException") : Ctw l yL_append cL_append 4 hh_append rmw_append D cy ad [.ref (ad 8 9 0), .int p0, .ref (ad 16 19 0)] x (fun r y => r = 2 ∧ y = x) := by
  refine rm_entryW hI (by decide) (Nat.le_of_ble_eq_true rfl) ?_
  intro p e s m args below meth c hc hX
  show RM _ _ _ _ _ _ _ _ _ _ _ _ _ _ _ _ _ [(0, .ref (ad 8 9 0)), (1, .int p0), (2, .ref (ad 16 19 0))] []
  refine rm_aload_n hc dL_append_0 rfl rfl ?_
  refine rm_iconst (v := 0) hc dL_append_1 (by decide) ?_
  refine rm_aload_n hc dL_append_2 rfl rfl ?_
  refine rm_iload_n hc dL_append_3 rfl rfl ?_
  refine rm_catV (As := [.int p0]) (rest := [.int 0, .ref (ad 16 19 0)]) hc hX [⟨0, 9, 12, 15⟩] ⟨0, 9, 15, 24⟩ [] dL_append_4 hC mv_L_45 dm_9 rfl rfl (hn := rfl) (hst := rfl) (hw := Nat.le_of_ble_eq_true rfl) (hR := ⟨⟨rfl, rfl⟩, Nat.le_of_ble_eq_true rfl, Nat.le_of_ble_eq_true rfl⟩) (hnc := ⟨Nat.le_of_ble_eq_true rfl, Nat.le_of_ble_eq_true rfl⟩) rfl (fun z hz => by simp at hz; subst hz; first | exact ⟨by decide, _, clL_13, by decide +kernel⟩ | exact ⟨by decide, _, clL_15, by decide +kernel⟩) (by decide) (by decide) clL_24 cbL_24 (fun q9 => ?_)
  refine rm_astore_n (ls' := [(0, .ref (ad 8 9 0)), (1, .int p0), (2, .ref (ad 16 19 0)), (3, .ref q9)]) hc dL_append_15 rfl (by decide) rfl ?_
  refine rm_iconst (v := 2) hc dL_append_16 (by decide) ?_
  exact rm_iretW hc dL_append_17 (by decide) (by decide) ⟨rfl, rfl⟩

abbrev rmw_play : Room := { frames := 8, cells := 1, slots := 6, locals := 166 }
abbrev hh_play : List (Nat × Nat × Nat × Nat) := [(0, 8, 11, 15)]

set_option maxHeartbeats 4000000 in
set_option maxRecDepth 100000 in
theorem w_play {l : Launch} {D : va_G} {cy : Nat → ClassId} {ad : Ads} (hI : IJ ad) (x : Mem)  {post : Int32 → Mem → Prop} (hC : Cti l yX8_play cX8_play 4 (some .int) rm_X8_play D cy ad [.ref (ad 8 9 0)] x post) : Ctw l yL_play cL_play 3 hh_play rmw_play D cy ad [.ref (ad 8 9 0), .ref (ad 16 19 0)] x (fun r y => r = 0 ∧ ∃ v z, post v z ∧ y = up z 16 0 v) := by
  refine rm_entryW hI (by decide) (Nat.le_of_ble_eq_true rfl) ?_
  intro p e s m args below meth c hc hX
  show RM _ _ _ _ _ _ _ _ _ _ _ _ _ _ _ _ _ [(0, .ref (ad 8 9 0)), (1, .ref (ad 16 19 0))] []
  refine rm_aload_n hc dL_play_0 rfl rfl ?_
  refine rm_iconst (v := 0) hc dL_play_1 (by decide) ?_
  refine rm_aload_n hc dL_play_2 rfl rfl ?_
  refine rm_calliV (As := []) (rest := [.int 0, .ref (ad 16 19 0)]) hc dL_play_3 hC mv_L_48 dm_9 rfl rfl (hn := rfl) (hst := rfl) (hw := Nat.le_of_ble_eq_true rfl) (hR := ⟨⟨rfl, rfl⟩, Nat.le_of_ble_eq_true rfl, Nat.le_of_ble_eq_true rfl⟩) (hnc := ⟨Nat.zero_le _, Nat.zero_le _⟩) (fun r_1 y_1 h_1 => ?_)
  refine rm_i2l hc dL_play_6 (fun v_2 e_2 => ?_)
  refine rm_last (r := r_1) hc dL_play_7 e_2 ?_
  refine rm_goto (tgt := 14) hc dL_play_8 (by decide) ?_
  refine rm_iconst (v := 0) hc dL_play_14 (by decide) ?_
  exact rm_iretW hc dL_play_15 (by decide) (by decide) ⟨rfl, r_1, y_1, h_1, rfl⟩

set_option maxHeartbeats 4000000 in
set_option maxRecDepth 100000 in
theorem w_play_1 {l : Launch} {D : va_G} {cy : Nat → ClassId} {ad : Ads} (hI : IJ ad) (x : Mem)  (hC : Ctx l yX8_play cX8_play 4 (some .int) rmx_X8_play D cy ad [.ref (ad 8 9 0)] x "java/lang/IllegalArgumentException") : Ctw l yL_play cL_play 3 hh_play rmw_play D cy ad [.ref (ad 8 9 0), .ref (ad 16 19 0)] x (fun r y => r = 1 ∧ y = x) := by
  refine rm_entryW hI (by decide) (Nat.le_of_ble_eq_true rfl) ?_
  intro p e s m args below meth c hc hX
  show RM _ _ _ _ _ _ _ _ _ _ _ _ _ _ _ _ _ [(0, .ref (ad 8 9 0)), (1, .ref (ad 16 19 0))] []
  refine rm_aload_n hc dL_play_0 rfl rfl ?_
  refine rm_iconst (v := 0) hc dL_play_1 (by decide) ?_
  refine rm_aload_n hc dL_play_2 rfl rfl ?_
  refine rm_catV (As := []) (rest := [.int 0, .ref (ad 16 19 0)]) hc hX [] ⟨0, 8, 11, 15⟩ [] dL_play_3 hC mv_L_48 dm_9 rfl rfl (hn := rfl) (hst := rfl) (hw := Nat.le_of_ble_eq_true rfl) (hR := ⟨⟨rfl, rfl⟩, Nat.le_of_ble_eq_true rfl, Nat.le_of_ble_eq_true rfl⟩) (hnc := ⟨Nat.le_of_ble_eq_true rfl, Nat.le_of_ble_eq_true rfl⟩) rfl (fun z hz => nomatch hz) (by decide) (by decide) clL_15 cbL_15 (fun q9 => ?_)
  refine rm_astore_n (ls' := [(0, .ref (ad 8 9 0)), (1, .ref (ad 16 19 0)), (2, .ref q9)]) hc dL_play_11 rfl (by decide) rfl ?_
  refine rm_iconst (v := 1) hc dL_play_12 (by decide) ?_
  exact rm_iretW hc dL_play_13 (by decide) (by decide) ⟨rfl, rfl⟩

abbrev rmw_undo : Room := { frames := 8, cells := 1, slots := 6, locals := 130 }
abbrev hh_undo : List (Nat × Nat × Nat × Nat) := [(0, 8, 11, 24)]

set_option maxHeartbeats 4000000 in
set_option maxRecDepth 100000 in
theorem w_undo {l : Launch} {D : va_G} {cy : Nat → ClassId} {ad : Ads} (hI : IJ ad) (x : Mem)  {post : Int32 → Mem → Prop} (hC : Cti l yX8_undo cX8_undo 1 (some .int) rm_X8_undo D cy ad [.ref (ad 8 9 0)] x post) : Ctw l yL_undo cL_undo 3 hh_undo rmw_undo D cy ad [.ref (ad 8 9 0), .ref (ad 16 19 0)] x (fun r y => r = 0 ∧ ∃ v z, post v z ∧ y = up z 16 0 v) := by
  refine rm_entryW hI (by decide) (Nat.le_of_ble_eq_true rfl) ?_
  intro p e s m args below meth c hc hX
  show RM _ _ _ _ _ _ _ _ _ _ _ _ _ _ _ _ _ [(0, .ref (ad 8 9 0)), (1, .ref (ad 16 19 0))] []
  refine rm_aload_n hc dL_undo_0 rfl rfl ?_
  refine rm_iconst (v := 0) hc dL_undo_1 (by decide) ?_
  refine rm_aload_n hc dL_undo_2 rfl rfl ?_
  refine rm_calliV (As := []) (rest := [.int 0, .ref (ad 16 19 0)]) hc dL_undo_3 hC mv_L_52 dm_9 rfl rfl (hn := rfl) (hst := rfl) (hw := Nat.le_of_ble_eq_true rfl) (hR := ⟨⟨rfl, rfl⟩, Nat.le_of_ble_eq_true rfl, Nat.le_of_ble_eq_true rfl⟩) (hnc := ⟨Nat.zero_le _, Nat.zero_le _⟩) (fun r_1 y_1 h_1 => ?_)
  refine rm_i2l hc dL_undo_6 (fun v_2 e_2 => ?_)
  refine rm_last (r := r_1) hc dL_undo_7 e_2 ?_
  refine rm_goto (tgt := 14) hc dL_undo_8 (by decide) ?_
  refine rm_iconst (v := 0) hc dL_undo_14 (by decide) ?_
  exact rm_iretW hc dL_undo_15 (by decide) (by decide) ⟨rfl, r_1, y_1, h_1, rfl⟩

set_option maxHeartbeats 4000000 in
set_option maxRecDepth 100000 in
theorem w_undo_1 {l : Launch} {D : va_G} {cy : Nat → ClassId} {ad : Ads} (hI : IJ ad) (x : Mem)  (hC : Ctx l yX8_undo cX8_undo 1 (some .int) rmx_X8_undo D cy ad [.ref (ad 8 9 0)] x "java/lang/IllegalStateException") : Ctw l yL_undo cL_undo 3 hh_undo rmw_undo D cy ad [.ref (ad 8 9 0), .ref (ad 16 19 0)] x (fun r y => r = 1 ∧ y = x) := by
  refine rm_entryW hI (by decide) (Nat.le_of_ble_eq_true rfl) ?_
  intro p e s m args below meth c hc hX
  show RM _ _ _ _ _ _ _ _ _ _ _ _ _ _ _ _ _ [(0, .ref (ad 8 9 0)), (1, .ref (ad 16 19 0))] []
  refine rm_aload_n hc dL_undo_0 rfl rfl ?_
  refine rm_iconst (v := 0) hc dL_undo_1 (by decide) ?_
  refine rm_aload_n hc dL_undo_2 rfl rfl ?_
  refine rm_catV (As := []) (rest := [.int 0, .ref (ad 16 19 0)]) hc hX [] ⟨0, 8, 11, 24⟩ [] dL_undo_3 hC mv_L_52 dm_9 rfl rfl (hn := rfl) (hst := rfl) (hw := Nat.le_of_ble_eq_true rfl) (hR := ⟨⟨rfl, rfl⟩, Nat.le_of_ble_eq_true rfl, Nat.le_of_ble_eq_true rfl⟩) (hnc := ⟨Nat.le_of_ble_eq_true rfl, Nat.le_of_ble_eq_true rfl⟩) rfl (fun z hz => nomatch hz) (by decide) (by decide) clL_24 cbL_24 (fun q9 => ?_)
  refine rm_astore_n (ls' := [(0, .ref (ad 8 9 0)), (1, .ref (ad 16 19 0)), (2, .ref q9)]) hc dL_undo_11 rfl (by decide) rfl ?_
  refine rm_iconst (v := 1) hc dL_undo_12 (by decide) ?_
  exact rm_iretW hc dL_undo_13 (by decide) (by decide) ⟨rfl, rfl⟩

abbrev rmw_fob : Room := { frames := 9, cells := 1, slots := 6, locals := 154 }
abbrev hh_fob : List (Nat × Nat × Nat × Nat) := [(0, 10, 13, 13), (0, 10, 17, 15)]

set_option maxHeartbeats 4000000 in
set_option maxRecDepth 100000 in
theorem w_fob {l : Launch} {D : va_G} {cy : Nat → ClassId} {ad : Ads} (hI : IJ ad) (x : Mem) (p0 p1 : Int32) {post : Int32 → Mem → Prop} (hC : Cti l yX8_fob cX8_fob 3 (some .int) rm_X8_fob D cy ad [.ref (ad 8 9 0), .int p0, .int p1] x post) : Ctw l yL_fob cL_fob 5 hh_fob rmw_fob D cy ad [.ref (ad 8 9 0), .int p0, .int p1, .ref (ad 16 19 0)] x (fun r y => r = 0 ∧ ∃ v z, post v z ∧ y = up z 16 0 v) := by
  refine rm_entryW hI (by decide) (Nat.le_of_ble_eq_true rfl) ?_
  intro p e s m args below meth c hc hX
  show RM _ _ _ _ _ _ _ _ _ _ _ _ _ _ _ _ _ [(0, .ref (ad 8 9 0)), (1, .int p0), (2, .int p1), (3, .ref (ad 16 19 0))] []
  refine rm_aload_n hc dL_fob_0 rfl rfl ?_
  refine rm_iconst (v := 0) hc dL_fob_1 (by decide) ?_
  refine rm_aload_n hc dL_fob_2 rfl rfl ?_
  refine rm_iload_n hc dL_fob_3 rfl rfl ?_
  refine rm_iload_n hc dL_fob_4 rfl rfl ?_
  refine rm_calliV (As := [.int p0, .int p1]) (rest := [.int 0, .ref (ad 16 19 0)]) hc dL_fob_5 hC mv_L_55 dm_9 rfl rfl (hn := rfl) (hst := rfl) (hw := Nat.le_of_ble_eq_true rfl) (hR := ⟨⟨rfl, rfl⟩, Nat.le_of_ble_eq_true rfl, Nat.le_of_ble_eq_true rfl⟩) (hnc := ⟨Nat.zero_le _, Nat.zero_le _⟩) (fun r_1 y_1 h_1 => ?_)
  refine rm_i2l hc dL_fob_8 (fun v_2 e_2 => ?_)
  refine rm_last (r := r_1) hc dL_fob_9 e_2 ?_
  refine rm_goto (tgt := 21) hc dL_fob_10 (by decide) ?_
  refine rm_iconst (v := 0) hc dL_fob_21 (by decide) ?_
  exact rm_iretW hc dL_fob_22 (by decide) (by decide) ⟨rfl, r_1, y_1, h_1, rfl⟩

set_option maxHeartbeats 4000000 in
set_option maxRecDepth 100000 in
theorem w_fob_1 {l : Launch} {D : va_G} {cy : Nat → ClassId} {ad : Ads} (hI : IJ ad) (x : Mem) (p0 p1 : Int32) (hC : Ctx l yX8_fob cX8_fob 3 (some .int) rmx_X8_fob D cy ad [.ref (ad 8 9 0), .int p0, .int p1] x "java/lang/IndexOutOfBoundsException") : Ctw l yL_fob cL_fob 5 hh_fob rmw_fob D cy ad [.ref (ad 8 9 0), .int p0, .int p1, .ref (ad 16 19 0)] x (fun r y => r = 1 ∧ y = x) := by
  refine rm_entryW hI (by decide) (Nat.le_of_ble_eq_true rfl) ?_
  intro p e s m args below meth c hc hX
  show RM _ _ _ _ _ _ _ _ _ _ _ _ _ _ _ _ _ [(0, .ref (ad 8 9 0)), (1, .int p0), (2, .int p1), (3, .ref (ad 16 19 0))] []
  refine rm_aload_n hc dL_fob_0 rfl rfl ?_
  refine rm_iconst (v := 0) hc dL_fob_1 (by decide) ?_
  refine rm_aload_n hc dL_fob_2 rfl rfl ?_
  refine rm_iload_n hc dL_fob_3 rfl rfl ?_
  refine rm_iload_n hc dL_fob_4 rfl rfl ?_
  refine rm_catV (As := [.int p0, .int p1]) (rest := [.int 0, .ref (ad 16 19 0)]) hc hX [] ⟨0, 10, 13, 13⟩ [⟨0, 10, 17, 15⟩] dL_fob_5 hC mv_L_55 dm_9 rfl rfl (hn := rfl) (hst := rfl) (hw := Nat.le_of_ble_eq_true rfl) (hR := ⟨⟨rfl, rfl⟩, Nat.le_of_ble_eq_true rfl, Nat.le_of_ble_eq_true rfl⟩) (hnc := ⟨Nat.le_of_ble_eq_true rfl, Nat.le_of_ble_eq_true rfl⟩) rfl (fun z hz => nomatch hz) (by decide) (by decide) clL_13 cbL_13 (fun q9 => ?_)
  refine rm_astore (ls' := [(0, .ref (ad 8 9 0)), (1, .int p0), (2, .int p1), (3, .ref (ad 16 19 0)), (4, .ref q9)]) hc dL_fob_13 (by decide) rfl ?_
  refine rm_iconst (v := 1) hc dL_fob_15 (by decide) ?_
  exact rm_iretW hc dL_fob_16 (by decide) (by decide) ⟨rfl, rfl⟩

set_option maxHeartbeats 4000000 in
set_option maxRecDepth 100000 in
theorem w_fob_2 {l : Launch} {D : va_G} {cy : Nat → ClassId} {ad : Ads} (hI : IJ ad) (x : Mem) (p0 p1 : Int32) (hC : Ctx l yX8_fob cX8_fob 3 (some .int) rmx_X8_fob D cy ad [.ref (ad 8 9 0), .int p0, .int p1] x "java/lang/IllegalArgumentException") : Ctw l yL_fob cL_fob 5 hh_fob rmw_fob D cy ad [.ref (ad 8 9 0), .int p0, .int p1, .ref (ad 16 19 0)] x (fun r y => r = 2 ∧ y = x) := by
  refine rm_entryW hI (by decide) (Nat.le_of_ble_eq_true rfl) ?_
  intro p e s m args below meth c hc hX
  show RM _ _ _ _ _ _ _ _ _ _ _ _ _ _ _ _ _ [(0, .ref (ad 8 9 0)), (1, .int p0), (2, .int p1), (3, .ref (ad 16 19 0))] []
  refine rm_aload_n hc dL_fob_0 rfl rfl ?_
  refine rm_iconst (v := 0) hc dL_fob_1 (by decide) ?_
  refine rm_aload_n hc dL_fob_2 rfl rfl ?_
  refine rm_iload_n hc dL_fob_3 rfl rfl ?_
  refine rm_iload_n hc dL_fob_4 rfl rfl ?_
  refine rm_catV (As := [.int p0, .int p1]) (rest := [.int 0, .ref (ad 16 19 0)]) hc hX [⟨0, 10, 13, 13⟩] ⟨0, 10, 17, 15⟩ [] dL_fob_5 hC mv_L_55 dm_9 rfl rfl (hn := rfl) (hst := rfl) (hw := Nat.le_of_ble_eq_true rfl) (hR := ⟨⟨rfl, rfl⟩, Nat.le_of_ble_eq_true rfl, Nat.le_of_ble_eq_true rfl⟩) (hnc := ⟨Nat.le_of_ble_eq_true rfl, Nat.le_of_ble_eq_true rfl⟩) rfl (fun z hz => by simp at hz; subst hz; first | exact ⟨by decide, _, clL_13, by decide +kernel⟩ | exact ⟨by decide, _, clL_15, by decide +kernel⟩) (by decide) (by decide) clL_15 cbL_15 (fun q9 => ?_)
  refine rm_astore (ls' := [(0, .ref (ad 8 9 0)), (1, .int p0), (2, .int p1), (3, .ref (ad 16 19 0)), (4, .ref q9)]) hc dL_fob_17 (by decide) rfl ?_
  refine rm_iconst (v := 2) hc dL_fob_19 (by decide) ?_
  exact rm_iretW hc dL_fob_20 (by decide) (by decide) ⟨rfl, rfl⟩

abbrev rmw_slot : Room := { frames := 9, cells := 1, slots := 6, locals := 155 }
abbrev hh_slot : List (Nat × Nat × Nat × Nat) := [(0, 12, 15, 13), (0, 12, 19, 15)]

set_option maxHeartbeats 4000000 in
set_option maxRecDepth 100000 in
theorem w_slot {l : Launch} {D : va_G} {cy : Nat → ClassId} {ad : Ads} (hI : IJ ad) (x : Mem) (p0 p1 p2 : Int32) {post : Int32 → Mem → Prop} (hC : Cti l yX8_slot cX8_slot 4 (some .int) rm_X8_slot D cy ad [.ref (ad 8 9 0), .int p0, .int p1, .int p2] x post) : Ctw l yL_slot cL_slot 6 hh_slot rmw_slot D cy ad [.ref (ad 8 9 0), .int p0, .int p1, .int p2, .ref (ad 16 19 0)] x (fun r y => r = 0 ∧ ∃ v z, post v z ∧ y = up z 16 0 v) := by
  refine rm_entryW hI (by decide) (Nat.le_of_ble_eq_true rfl) ?_
  intro p e s m args below meth c hc hX
  show RM _ _ _ _ _ _ _ _ _ _ _ _ _ _ _ _ _ [(0, .ref (ad 8 9 0)), (1, .int p0), (2, .int p1), (3, .int p2), (4, .ref (ad 16 19 0))] []
  refine rm_aload hc dL_slot_0 rfl ?_
  refine rm_iconst (v := 0) hc dL_slot_2 (by decide) ?_
  refine rm_aload_n hc dL_slot_3 rfl rfl ?_
  refine rm_iload_n hc dL_slot_4 rfl rfl ?_
  refine rm_iload_n hc dL_slot_5 rfl rfl ?_
  refine rm_iload_n hc dL_slot_6 rfl rfl ?_
  refine rm_calliV (As := [.int p0, .int p1, .int p2]) (rest := [.int 0, .ref (ad 16 19 0)]) hc dL_slot_7 hC mv_L_58 dm_9 rfl rfl (hn := rfl) (hst := rfl) (hw := Nat.le_of_ble_eq_true rfl) (hR := ⟨⟨rfl, rfl⟩, Nat.le_of_ble_eq_true rfl, Nat.le_of_ble_eq_true rfl⟩) (hnc := ⟨Nat.zero_le _, Nat.zero_le _⟩) (fun r_1 y_1 h_1 => ?_)
  refine rm_i2l hc dL_slot_10 (fun v_2 e_2 => ?_)
  refine rm_last (r := r_1) hc dL_slot_11 e_2 ?_
  refine rm_goto (tgt := 23) hc dL_slot_12 (by decide) ?_
  refine rm_iconst (v := 0) hc dL_slot_23 (by decide) ?_
  exact rm_iretW hc dL_slot_24 (by decide) (by decide) ⟨rfl, r_1, y_1, h_1, rfl⟩

set_option maxHeartbeats 4000000 in
set_option maxRecDepth 100000 in
theorem w_slot_1 {l : Launch} {D : va_G} {cy : Nat → ClassId} {ad : Ads} (hI : IJ ad) (x : Mem) (p0 p1 p2 : Int32) (hC : Ctx l yX8_slot cX8_slot 4 (some .int) rmx_X8_slot D cy ad [.ref (ad 8 9 0), .int p0, .int p1, .int p2] x "java/lang/IndexOutOfBoundsException") : Ctw l yL_slot cL_slot 6 hh_slot rmw_slot D cy ad [.ref (ad 8 9 0), .int p0, .int p1, .int p2, .ref (ad 16 19 0)] x (fun r y => r = 1 ∧ y = x) := by
  refine rm_entryW hI (by decide) (Nat.le_of_ble_eq_true rfl) ?_
  intro p e s m args below meth c hc hX
  show RM _ _ _ _ _ _ _ _ _ _ _ _ _ _ _ _ _ [(0, .ref (ad 8 9 0)), (1, .int p0), (2, .int p1), (3, .int p2), (4, .ref (ad 16 19 0))] []
  refine rm_aload hc dL_slot_0 rfl ?_
  refine rm_iconst (v := 0) hc dL_slot_2 (by decide) ?_
  refine rm_aload_n hc dL_slot_3 rfl rfl ?_
  refine rm_iload_n hc dL_slot_4 rfl rfl ?_
  refine rm_iload_n hc dL_slot_5 rfl rfl ?_
  refine rm_iload_n hc dL_slot_6 rfl rfl ?_
  refine rm_catV (As := [.int p0, .int p1, .int p2]) (rest := [.int 0, .ref (ad 16 19 0)]) hc hX [] ⟨0, 12, 15, 13⟩ [⟨0, 12, 19, 15⟩] dL_slot_7 hC mv_L_58 dm_9 rfl rfl (hn := rfl) (hst := rfl) (hw := Nat.le_of_ble_eq_true rfl) (hR := ⟨⟨rfl, rfl⟩, Nat.le_of_ble_eq_true rfl, Nat.le_of_ble_eq_true rfl⟩) (hnc := ⟨Nat.le_of_ble_eq_true rfl, Nat.le_of_ble_eq_true rfl⟩) rfl (fun z hz => nomatch hz) (by decide) (by decide) clL_13 cbL_13 (fun q9 => ?_)
  refine rm_astore (ls' := [(0, .ref (ad 8 9 0)), (1, .int p0), (2, .int p1), (3, .int p2), (4, .ref (ad 16 19 0)), (5, .ref q9)]) hc dL_slot_15 (by decide) rfl ?_
  refine rm_iconst (v := 1) hc dL_slot_17 (by decide) ?_
  exact rm_iretW hc dL_slot_18 (by decide) (by decide) ⟨rfl, rfl⟩

set_option maxHeartbeats 4000000 in
set_option maxRecDepth 100000 in
theorem w_slot_2 {l : Launch} {D : va_G} {cy : Nat → ClassId} {ad : Ads} (hI : IJ ad) (x : Mem) (p0 p1 p2 : Int32) (hC : Ctx l yX8_slot cX8_slot 4 (some .int) rmx_X8_slot D cy ad [.ref (ad 8 9 0), .int p0, .int p1, .int p2] x "java/lang/IllegalArgumentException") : Ctw l yL_slot cL_slot 6 hh_slot rmw_slot D cy ad [.ref (ad 8 9 0), .int p0, .int p1, .int p2, .ref (ad 16 19 0)] x (fun r y => r = 2 ∧ y = x) := by
  refine rm_entryW hI (by decide) (Nat.le_of_ble_eq_true rfl) ?_
  intro p e s m args below meth c hc hX
  show RM _ _ _ _ _ _ _ _ _ _ _ _ _ _ _ _ _ [(0, .ref (ad 8 9 0)), (1, .int p0), (2, .int p1), (3, .int p2), (4, .ref (ad 16 19 0))] []
  refine rm_aload hc dL_slot_0 rfl ?_
  refine rm_iconst (v := 0) hc dL_slot_2 (by decide) ?_
  refine rm_aload_n hc dL_slot_3 rfl rfl ?_
  refine rm_iload_n hc dL_slot_4 rfl rfl ?_
  refine rm_iload_n hc dL_slot_5 rfl rfl ?_
  refine rm_iload_n hc dL_slot_6 rfl rfl ?_
  refine rm_catV (As := [.int p0, .int p1, .int p2]) (rest := [.int 0, .ref (ad 16 19 0)]) hc hX [⟨0, 12, 15, 13⟩] ⟨0, 12, 19, 15⟩ [] dL_slot_7 hC mv_L_58 dm_9 rfl rfl (hn := rfl) (hst := rfl) (hw := Nat.le_of_ble_eq_true rfl) (hR := ⟨⟨rfl, rfl⟩, Nat.le_of_ble_eq_true rfl, Nat.le_of_ble_eq_true rfl⟩) (hnc := ⟨Nat.le_of_ble_eq_true rfl, Nat.le_of_ble_eq_true rfl⟩) rfl (fun z hz => by simp at hz; subst hz; first | exact ⟨by decide, _, clL_13, by decide +kernel⟩ | exact ⟨by decide, _, clL_15, by decide +kernel⟩) (by decide) (by decide) clL_15 cbL_15 (fun q9 => ?_)
  refine rm_astore (ls' := [(0, .ref (ad 8 9 0)), (1, .int p0), (2, .int p1), (3, .int p2), (4, .ref (ad 16 19 0)), (5, .ref q9)]) hc dL_slot_19 (by decide) rfl ?_
  refine rm_iconst (v := 2) hc dL_slot_21 (by decide) ?_
  exact rm_iretW hc dL_slot_22 (by decide) (by decide) ⟨rfl, rfl⟩

abbrev rmw_door : Room := { frames := 9, cells := 1, slots := 6, locals := 154 }
abbrev hh_door : List (Nat × Nat × Nat × Nat) := [(0, 10, 13, 13), (0, 10, 17, 15)]

set_option maxHeartbeats 4000000 in
set_option maxRecDepth 100000 in
theorem w_door {l : Launch} {D : va_G} {cy : Nat → ClassId} {ad : Ads} (hI : IJ ad) (x : Mem) (p0 p1 : Int32) {post : Int32 → Mem → Prop} (hC : Cti l yX8_door cX8_door 3 (some .int) rm_X8_door D cy ad [.ref (ad 8 9 0), .int p0, .int p1] x post) : Ctw l yL_door cL_door 5 hh_door rmw_door D cy ad [.ref (ad 8 9 0), .int p0, .int p1, .ref (ad 16 19 0)] x (fun r y => r = 0 ∧ ∃ v z, post v z ∧ y = up z 16 0 v) := by
  refine rm_entryW hI (by decide) (Nat.le_of_ble_eq_true rfl) ?_
  intro p e s m args below meth c hc hX
  show RM _ _ _ _ _ _ _ _ _ _ _ _ _ _ _ _ _ [(0, .ref (ad 8 9 0)), (1, .int p0), (2, .int p1), (3, .ref (ad 16 19 0))] []
  refine rm_aload_n hc dL_door_0 rfl rfl ?_
  refine rm_iconst (v := 0) hc dL_door_1 (by decide) ?_
  refine rm_aload_n hc dL_door_2 rfl rfl ?_
  refine rm_iload_n hc dL_door_3 rfl rfl ?_
  refine rm_iload_n hc dL_door_4 rfl rfl ?_
  refine rm_calliV (As := [.int p0, .int p1]) (rest := [.int 0, .ref (ad 16 19 0)]) hc dL_door_5 hC mv_L_61 dm_9 rfl rfl (hn := rfl) (hst := rfl) (hw := Nat.le_of_ble_eq_true rfl) (hR := ⟨⟨rfl, rfl⟩, Nat.le_of_ble_eq_true rfl, Nat.le_of_ble_eq_true rfl⟩) (hnc := ⟨Nat.zero_le _, Nat.zero_le _⟩) (fun r_1 y_1 h_1 => ?_)
  refine rm_i2l hc dL_door_8 (fun v_2 e_2 => ?_)
  refine rm_last (r := r_1) hc dL_door_9 e_2 ?_
  refine rm_goto (tgt := 21) hc dL_door_10 (by decide) ?_
  refine rm_iconst (v := 0) hc dL_door_21 (by decide) ?_
  exact rm_iretW hc dL_door_22 (by decide) (by decide) ⟨rfl, r_1, y_1, h_1, rfl⟩

set_option maxHeartbeats 4000000 in
set_option maxRecDepth 100000 in
theorem w_door_1 {l : Launch} {D : va_G} {cy : Nat → ClassId} {ad : Ads} (hI : IJ ad) (x : Mem) (p0 p1 : Int32) (hC : Ctx l yX8_door cX8_door 3 (some .int) rmx_X8_door D cy ad [.ref (ad 8 9 0), .int p0, .int p1] x "java/lang/IndexOutOfBoundsException") : Ctw l yL_door cL_door 5 hh_door rmw_door D cy ad [.ref (ad 8 9 0), .int p0, .int p1, .ref (ad 16 19 0)] x (fun r y => r = 1 ∧ y = x) := by
  refine rm_entryW hI (by decide) (Nat.le_of_ble_eq_true rfl) ?_
  intro p e s m args below meth c hc hX
  show RM _ _ _ _ _ _ _ _ _ _ _ _ _ _ _ _ _ [(0, .ref (ad 8 9 0)), (1, .int p0), (2, .int p1), (3, .ref (ad 16 19 0))] []
  refine rm_aload_n hc dL_door_0 rfl rfl ?_
  refine rm_iconst (v := 0) hc dL_door_1 (by decide) ?_
  refine rm_aload_n hc dL_door_2 rfl rfl ?_
  refine rm_iload_n hc dL_door_3 rfl rfl ?_
  refine rm_iload_n hc dL_door_4 rfl rfl ?_
  refine rm_catV (As := [.int p0, .int p1]) (rest := [.int 0, .ref (ad 16 19 0)]) hc hX [] ⟨0, 10, 13, 13⟩ [⟨0, 10, 17, 15⟩] dL_door_5 hC mv_L_61 dm_9 rfl rfl (hn := rfl) (hst := rfl) (hw := Nat.le_of_ble_eq_true rfl) (hR := ⟨⟨rfl, rfl⟩, Nat.le_of_ble_eq_true rfl, Nat.le_of_ble_eq_true rfl⟩) (hnc := ⟨Nat.le_of_ble_eq_true rfl, Nat.le_of_ble_eq_true rfl⟩) rfl (fun z hz => nomatch hz) (by decide) (by decide) clL_13 cbL_13 (fun q9 => ?_)
  refine rm_astore (ls' := [(0, .ref (ad 8 9 0)), (1, .int p0), (2, .int p1), (3, .ref (ad 16 19 0)), (4, .ref q9)]) hc dL_door_13 (by decide) rfl ?_
  refine rm_iconst (v := 1) hc dL_door_15 (by decide) ?_
  exact rm_iretW hc dL_door_16 (by decide) (by decide) ⟨rfl, rfl⟩

set_option maxHeartbeats 4000000 in
set_option maxRecDepth 100000 in
theorem w_door_2 {l : Launch} {D : va_G} {cy : Nat → ClassId} {ad : Ads} (hI : IJ ad) (x : Mem) (p0 p1 : Int32) (hC : Ctx l yX8_door cX8_door 3 (some .int) rmx_X8_door D cy ad [.ref (ad 8 9 0), .int p0, .int p1] x "java/lang/IllegalArgumentException") : Ctw l yL_door cL_door 5 hh_door rmw_door D cy ad [.ref (ad 8 9 0), .int p0, .int p1, .ref (ad 16 19 0)] x (fun r y => r = 2 ∧ y = x) := by
  refine rm_entryW hI (by decide) (Nat.le_of_ble_eq_true rfl) ?_
  intro p e s m args below meth c hc hX
  show RM _ _ _ _ _ _ _ _ _ _ _ _ _ _ _ _ _ [(0, .ref (ad 8 9 0)), (1, .int p0), (2, .int p1), (3, .ref (ad 16 19 0))] []
  refine rm_aload_n hc dL_door_0 rfl rfl ?_
  refine rm_iconst (v := 0) hc dL_door_1 (by decide) ?_
  refine rm_aload_n hc dL_door_2 rfl rfl ?_
  refine rm_iload_n hc dL_door_3 rfl rfl ?_
  refine rm_iload_n hc dL_door_4 rfl rfl ?_
  refine rm_catV (As := [.int p0, .int p1]) (rest := [.int 0, .ref (ad 16 19 0)]) hc hX [⟨0, 10, 13, 13⟩] ⟨0, 10, 17, 15⟩ [] dL_door_5 hC mv_L_61 dm_9 rfl rfl (hn := rfl) (hst := rfl) (hw := Nat.le_of_ble_eq_true rfl) (hR := ⟨⟨rfl, rfl⟩, Nat.le_of_ble_eq_true rfl, Nat.le_of_ble_eq_true rfl⟩) (hnc := ⟨Nat.le_of_ble_eq_true rfl, Nat.le_of_ble_eq_true rfl⟩) rfl (fun z hz => by simp at hz; subst hz; first | exact ⟨by decide, _, clL_13, by decide +kernel⟩ | exact ⟨by decide, _, clL_15, by decide +kernel⟩) (by decide) (by decide) clL_15 cbL_15 (fun q9 => ?_)
  refine rm_astore (ls' := [(0, .ref (ad 8 9 0)), (1, .int p0), (2, .int p1), (3, .ref (ad 16 19 0)), (4, .ref q9)]) hc dL_door_17 (by decide) rfl ?_
  refine rm_iconst (v := 2) hc dL_door_19 (by decide) ?_
  exact rm_iretW hc dL_door_20 (by decide) (by decide) ⟨rfl, rfl⟩

abbrev rmw_air : Room := { frames := 8, cells := 1, slots := 6, locals := 131 }
abbrev hh_air : List (Nat × Nat × Nat × Nat) := [(0, 9, 12, 15)]

set_option maxHeartbeats 4000000 in
set_option maxRecDepth 100000 in
theorem w_air {l : Launch} {D : va_G} {cy : Nat → ClassId} {ad : Ads} (hI : IJ ad) (x : Mem) (p0 : Int32) {post : Int32 → Mem → Prop} (hC : Cti l yX8_air cX8_air 2 (some .int) rm_X8_air D cy ad [.ref (ad 8 9 0), .int p0] x post) : Ctw l yL_air cL_air 4 hh_air rmw_air D cy ad [.ref (ad 8 9 0), .int p0, .ref (ad 16 19 0)] x (fun r y => r = 0 ∧ ∃ v z, post v z ∧ y = up z 16 0 v) := by
  refine rm_entryW hI (by decide) (Nat.le_of_ble_eq_true rfl) ?_
  intro p e s m args below meth c hc hX
  show RM _ _ _ _ _ _ _ _ _ _ _ _ _ _ _ _ _ [(0, .ref (ad 8 9 0)), (1, .int p0), (2, .ref (ad 16 19 0))] []
  refine rm_aload_n hc dL_air_0 rfl rfl ?_
  refine rm_iconst (v := 0) hc dL_air_1 (by decide) ?_
  refine rm_aload_n hc dL_air_2 rfl rfl ?_
  refine rm_iload_n hc dL_air_3 rfl rfl ?_
  refine rm_calliV (As := [.int p0]) (rest := [.int 0, .ref (ad 16 19 0)]) hc dL_air_4 hC mv_L_64 dm_9 rfl rfl (hn := rfl) (hst := rfl) (hw := Nat.le_of_ble_eq_true rfl) (hR := ⟨⟨rfl, rfl⟩, Nat.le_of_ble_eq_true rfl, Nat.le_of_ble_eq_true rfl⟩) (hnc := ⟨Nat.zero_le _, Nat.zero_le _⟩) (fun r_1 y_1 h_1 => ?_)
  refine rm_i2l hc dL_air_7 (fun v_2 e_2 => ?_)
  refine rm_last (r := r_1) hc dL_air_8 e_2 ?_
  refine rm_goto (tgt := 15) hc dL_air_9 (by decide) ?_
  refine rm_iconst (v := 0) hc dL_air_15 (by decide) ?_
  exact rm_iretW hc dL_air_16 (by decide) (by decide) ⟨rfl, r_1, y_1, h_1, rfl⟩

set_option maxHeartbeats 4000000 in
set_option maxRecDepth 100000 in
theorem w_air_1 {l : Launch} {D : va_G} {cy : Nat → ClassId} {ad : Ads} (hI : IJ ad) (x : Mem) (p0 : Int32) (hC : Ctx l yX8_air cX8_air 2 (some .int) rmx_X8_air D cy ad [.ref (ad 8 9 0), .int p0] x "java/lang/IllegalArgumentException") : Ctw l yL_air cL_air 4 hh_air rmw_air D cy ad [.ref (ad 8 9 0), .int p0, .ref (ad 16 19 0)] x (fun r y => r = 1 ∧ y = x) := by
  refine rm_entryW hI (by decide) (Nat.le_of_ble_eq_true rfl) ?_
  intro p e s m args below meth c hc hX
  show RM _ _ _ _ _ _ _ _ _ _ _ _ _ _ _ _ _ [(0, .ref (ad 8 9 0)), (1, .int p0), (2, .ref (ad 16 19 0))] []
  refine rm_aload_n hc dL_air_0 rfl rfl ?_
  refine rm_iconst (v := 0) hc dL_air_1 (by decide) ?_
  refine rm_aload_n hc dL_air_2 rfl rfl ?_
  refine rm_iload_n hc dL_air_3 rfl rfl ?_
  refine rm_catV (As := [.int p0]) (rest := [.int 0, .ref (ad 16 19 0)]) hc hX [] ⟨0, 9, 12, 15⟩ [] dL_air_4 hC mv_L_64 dm_9 rfl rfl (hn := rfl) (hst := rfl) (hw := Nat.le_of_ble_eq_true rfl) (hR := ⟨⟨rfl, rfl⟩, Nat.le_of_ble_eq_true rfl, Nat.le_of_ble_eq_true rfl⟩) (hnc := ⟨Nat.le_of_ble_eq_true rfl, Nat.le_of_ble_eq_true rfl⟩) rfl (fun z hz => nomatch hz) (by decide) (by decide) clL_15 cbL_15 (fun q9 => ?_)
  refine rm_astore_n (ls' := [(0, .ref (ad 8 9 0)), (1, .int p0), (2, .ref (ad 16 19 0)), (3, .ref q9)]) hc dL_air_12 rfl (by decide) rfl ?_
  refine rm_iconst (v := 1) hc dL_air_13 (by decide) ?_
  exact rm_iretW hc dL_air_14 (by decide) (by decide) ⟨rfl, rfl⟩

abbrev rmw_count : Room := { frames := 9, cells := 1, slots := 6, locals := 153 }
abbrev hh_count : List (Nat × Nat × Nat × Nat) := [(0, 9, 12, 15)]

set_option maxHeartbeats 4000000 in
set_option maxRecDepth 100000 in
theorem w_count {l : Launch} {D : va_G} {cy : Nat → ClassId} {ad : Ads} (hI : IJ ad) (x : Mem) (p0 : Int32) {post : Int32 → Mem → Prop} (hC : Cti l yX8_count cX8_count 2 (some .int) rm_X8_count D cy ad [.ref (ad 8 9 0), .int p0] x post) : Ctw l yL_count cL_count 4 hh_count rmw_count D cy ad [.ref (ad 8 9 0), .int p0, .ref (ad 16 19 0)] x (fun r y => r = 0 ∧ ∃ v z, post v z ∧ y = up z 16 0 v) := by
  refine rm_entryW hI (by decide) (Nat.le_of_ble_eq_true rfl) ?_
  intro p e s m args below meth c hc hX
  show RM _ _ _ _ _ _ _ _ _ _ _ _ _ _ _ _ _ [(0, .ref (ad 8 9 0)), (1, .int p0), (2, .ref (ad 16 19 0))] []
  refine rm_aload_n hc dL_count_0 rfl rfl ?_
  refine rm_iconst (v := 0) hc dL_count_1 (by decide) ?_
  refine rm_aload_n hc dL_count_2 rfl rfl ?_
  refine rm_iload_n hc dL_count_3 rfl rfl ?_
  refine rm_calliV (As := [.int p0]) (rest := [.int 0, .ref (ad 16 19 0)]) hc dL_count_4 hC mv_L_67 dm_9 rfl rfl (hn := rfl) (hst := rfl) (hw := Nat.le_of_ble_eq_true rfl) (hR := ⟨⟨rfl, rfl⟩, Nat.le_of_ble_eq_true rfl, Nat.le_of_ble_eq_true rfl⟩) (hnc := ⟨Nat.zero_le _, Nat.zero_le _⟩) (fun r_1 y_1 h_1 => ?_)
  refine rm_i2l hc dL_count_7 (fun v_2 e_2 => ?_)
  refine rm_last (r := r_1) hc dL_count_8 e_2 ?_
  refine rm_goto (tgt := 15) hc dL_count_9 (by decide) ?_
  refine rm_iconst (v := 0) hc dL_count_15 (by decide) ?_
  exact rm_iretW hc dL_count_16 (by decide) (by decide) ⟨rfl, r_1, y_1, h_1, rfl⟩

set_option maxHeartbeats 4000000 in
set_option maxRecDepth 100000 in
theorem w_count_1 {l : Launch} {D : va_G} {cy : Nat → ClassId} {ad : Ads} (hI : IJ ad) (x : Mem) (p0 : Int32) (hC : Ctx l yX8_count cX8_count 2 (some .int) rmx_X8_count D cy ad [.ref (ad 8 9 0), .int p0] x "java/lang/IllegalArgumentException") : Ctw l yL_count cL_count 4 hh_count rmw_count D cy ad [.ref (ad 8 9 0), .int p0, .ref (ad 16 19 0)] x (fun r y => r = 1 ∧ y = x) := by
  refine rm_entryW hI (by decide) (Nat.le_of_ble_eq_true rfl) ?_
  intro p e s m args below meth c hc hX
  show RM _ _ _ _ _ _ _ _ _ _ _ _ _ _ _ _ _ [(0, .ref (ad 8 9 0)), (1, .int p0), (2, .ref (ad 16 19 0))] []
  refine rm_aload_n hc dL_count_0 rfl rfl ?_
  refine rm_iconst (v := 0) hc dL_count_1 (by decide) ?_
  refine rm_aload_n hc dL_count_2 rfl rfl ?_
  refine rm_iload_n hc dL_count_3 rfl rfl ?_
  refine rm_catV (As := [.int p0]) (rest := [.int 0, .ref (ad 16 19 0)]) hc hX [] ⟨0, 9, 12, 15⟩ [] dL_count_4 hC mv_L_67 dm_9 rfl rfl (hn := rfl) (hst := rfl) (hw := Nat.le_of_ble_eq_true rfl) (hR := ⟨⟨rfl, rfl⟩, Nat.le_of_ble_eq_true rfl, Nat.le_of_ble_eq_true rfl⟩) (hnc := ⟨Nat.le_of_ble_eq_true rfl, Nat.le_of_ble_eq_true rfl⟩) rfl (fun z hz => nomatch hz) (by decide) (by decide) clL_15 cbL_15 (fun q9 => ?_)
  refine rm_astore_n (ls' := [(0, .ref (ad 8 9 0)), (1, .int p0), (2, .ref (ad 16 19 0)), (3, .ref q9)]) hc dL_count_12 rfl (by decide) rfl ?_
  refine rm_iconst (v := 1) hc dL_count_13 (by decide) ?_
  exact rm_iretW hc dL_count_14 (by decide) (by decide) ⟨rfl, rfl⟩

abbrev rmw_setting : Room := { frames := 8, cells := 1, slots := 6, locals := 132 }
abbrev hh_setting : List (Nat × Nat × Nat × Nat) := [(0, 9, 12, 13)]

set_option maxHeartbeats 4000000 in
set_option maxRecDepth 100000 in
theorem w_setting {l : Launch} {D : va_G} {cy : Nat → ClassId} {ad : Ads} (hI : IJ ad) (x : Mem) (p0 : Int32) {post : Int32 → Mem → Prop} (hC : Cti l yX8_setting cX8_setting 2 (some .int) rm_X8_setting D cy ad [.ref (ad 8 9 0), .int p0] x post) : Ctw l yL_setting cL_setting 4 hh_setting rmw_setting D cy ad [.ref (ad 8 9 0), .int p0, .ref (ad 16 19 0)] x (fun r y => r = 0 ∧ ∃ v z, post v z ∧ y = up z 16 0 v) := by
  refine rm_entryW hI (by decide) (Nat.le_of_ble_eq_true rfl) ?_
  intro p e s m args below meth c hc hX
  show RM _ _ _ _ _ _ _ _ _ _ _ _ _ _ _ _ _ [(0, .ref (ad 8 9 0)), (1, .int p0), (2, .ref (ad 16 19 0))] []
  refine rm_aload_n hc dL_setting_0 rfl rfl ?_
  refine rm_iconst (v := 0) hc dL_setting_1 (by decide) ?_
  refine rm_aload_n hc dL_setting_2 rfl rfl ?_
  refine rm_iload_n hc dL_setting_3 rfl rfl ?_
  refine rm_calliV (As := [.int p0]) (rest := [.int 0, .ref (ad 16 19 0)]) hc dL_setting_4 hC mv_L_70 dm_9 rfl rfl (hn := rfl) (hst := rfl) (hw := Nat.le_of_ble_eq_true rfl) (hR := ⟨⟨rfl, rfl⟩, Nat.le_of_ble_eq_true rfl, Nat.le_of_ble_eq_true rfl⟩) (hnc := ⟨Nat.zero_le _, Nat.zero_le _⟩) (fun r_1 y_1 h_1 => ?_)
  refine rm_i2l hc dL_setting_7 (fun v_2 e_2 => ?_)
  refine rm_last (r := r_1) hc dL_setting_8 e_2 ?_
  refine rm_goto (tgt := 15) hc dL_setting_9 (by decide) ?_
  refine rm_iconst (v := 0) hc dL_setting_15 (by decide) ?_
  exact rm_iretW hc dL_setting_16 (by decide) (by decide) ⟨rfl, r_1, y_1, h_1, rfl⟩

set_option maxHeartbeats 4000000 in
set_option maxRecDepth 100000 in
theorem w_setting_1 {l : Launch} {D : va_G} {cy : Nat → ClassId} {ad : Ads} (hI : IJ ad) (x : Mem) (p0 : Int32) (hC : Ctx l yX8_setting cX8_setting 2 (some .int) rmx_X8_setting D cy ad [.ref (ad 8 9 0), .int p0] x "java/lang/IndexOutOfBoundsException") : Ctw l yL_setting cL_setting 4 hh_setting rmw_setting D cy ad [.ref (ad 8 9 0), .int p0, .ref (ad 16 19 0)] x (fun r y => r = 1 ∧ y = x) := by
  refine rm_entryW hI (by decide) (Nat.le_of_ble_eq_true rfl) ?_
  intro p e s m args below meth c hc hX
  show RM _ _ _ _ _ _ _ _ _ _ _ _ _ _ _ _ _ [(0, .ref (ad 8 9 0)), (1, .int p0), (2, .ref (ad 16 19 0))] []
  refine rm_aload_n hc dL_setting_0 rfl rfl ?_
  refine rm_iconst (v := 0) hc dL_setting_1 (by decide) ?_
  refine rm_aload_n hc dL_setting_2 rfl rfl ?_
  refine rm_iload_n hc dL_setting_3 rfl rfl ?_
  refine rm_catV (As := [.int p0]) (rest := [.int 0, .ref (ad 16 19 0)]) hc hX [] ⟨0, 9, 12, 13⟩ [] dL_setting_4 hC mv_L_70 dm_9 rfl rfl (hn := rfl) (hst := rfl) (hw := Nat.le_of_ble_eq_true rfl) (hR := ⟨⟨rfl, rfl⟩, Nat.le_of_ble_eq_true rfl, Nat.le_of_ble_eq_true rfl⟩) (hnc := ⟨Nat.le_of_ble_eq_true rfl, Nat.le_of_ble_eq_true rfl⟩) rfl (fun z hz => nomatch hz) (by decide) (by decide) clL_13 cbL_13 (fun q9 => ?_)
  refine rm_astore_n (ls' := [(0, .ref (ad 8 9 0)), (1, .int p0), (2, .ref (ad 16 19 0)), (3, .ref q9)]) hc dL_setting_12 rfl (by decide) rfl ?_
  refine rm_iconst (v := 1) hc dL_setting_13 (by decide) ?_
  exact rm_iretW hc dL_setting_14 (by decide) (by decide) ⟨rfl, rfl⟩

abbrev rmw_ifHeard : Room := { frames := 9, cells := 1, slots := 6, locals := 154 }
abbrev hh_ifHeard : List (Nat × Nat × Nat × Nat) := [(0, 10, 13, 13), (0, 10, 17, 15)]

set_option maxHeartbeats 4000000 in
set_option maxRecDepth 100000 in
theorem w_ifHeard {l : Launch} {D : va_G} {cy : Nat → ClassId} {ad : Ads} (hI : IJ ad) (x : Mem) (p0 p1 : Int32) {post : Int32 → Mem → Prop} (hC : Cti l yX8_ifHeard cX8_ifHeard 3 (some .int) rm_X8_ifHeard D cy ad [.ref (ad 8 9 0), .int p0, .int p1] x post) : Ctw l yL_ifHeard cL_ifHeard 5 hh_ifHeard rmw_ifHeard D cy ad [.ref (ad 8 9 0), .int p0, .int p1, .ref (ad 16 19 0)] x (fun r y => r = 0 ∧ ∃ v z, post v z ∧ y = up z 16 0 v) := by
  refine rm_entryW hI (by decide) (Nat.le_of_ble_eq_true rfl) ?_
  intro p e s m args below meth c hc hX
  show RM _ _ _ _ _ _ _ _ _ _ _ _ _ _ _ _ _ [(0, .ref (ad 8 9 0)), (1, .int p0), (2, .int p1), (3, .ref (ad 16 19 0))] []
  refine rm_aload_n hc dL_ifHeard_0 rfl rfl ?_
  refine rm_iconst (v := 0) hc dL_ifHeard_1 (by decide) ?_
  refine rm_aload_n hc dL_ifHeard_2 rfl rfl ?_
  refine rm_iload_n hc dL_ifHeard_3 rfl rfl ?_
  refine rm_iload_n hc dL_ifHeard_4 rfl rfl ?_
  refine rm_calliV (As := [.int p0, .int p1]) (rest := [.int 0, .ref (ad 16 19 0)]) hc dL_ifHeard_5 hC mv_L_73 dm_9 rfl rfl (hn := rfl) (hst := rfl) (hw := Nat.le_of_ble_eq_true rfl) (hR := ⟨⟨rfl, rfl⟩, Nat.le_of_ble_eq_true rfl, Nat.le_of_ble_eq_true rfl⟩) (hnc := ⟨Nat.zero_le _, Nat.zero_le _⟩) (fun r_1 y_1 h_1 => ?_)
  refine rm_i2l hc dL_ifHeard_8 (fun v_2 e_2 => ?_)
  refine rm_last (r := r_1) hc dL_ifHeard_9 e_2 ?_
  refine rm_goto (tgt := 21) hc dL_ifHeard_10 (by decide) ?_
  refine rm_iconst (v := 0) hc dL_ifHeard_21 (by decide) ?_
  exact rm_iretW hc dL_ifHeard_22 (by decide) (by decide) ⟨rfl, r_1, y_1, h_1, rfl⟩

set_option maxHeartbeats 4000000 in
set_option maxRecDepth 100000 in
theorem w_ifHeard_1 {l : Launch} {D : va_G} {cy : Nat → ClassId} {ad : Ads} (hI : IJ ad) (x : Mem) (p0 p1 : Int32) (hC : Ctx l yX8_ifHeard cX8_ifHeard 3 (some .int) rmx_X8_ifHeard D cy ad [.ref (ad 8 9 0), .int p0, .int p1] x "java/lang/IndexOutOfBoundsException") : Ctw l yL_ifHeard cL_ifHeard 5 hh_ifHeard rmw_ifHeard D cy ad [.ref (ad 8 9 0), .int p0, .int p1, .ref (ad 16 19 0)] x (fun r y => r = 1 ∧ y = x) := by
  refine rm_entryW hI (by decide) (Nat.le_of_ble_eq_true rfl) ?_
  intro p e s m args below meth c hc hX
  show RM _ _ _ _ _ _ _ _ _ _ _ _ _ _ _ _ _ [(0, .ref (ad 8 9 0)), (1, .int p0), (2, .int p1), (3, .ref (ad 16 19 0))] []
  refine rm_aload_n hc dL_ifHeard_0 rfl rfl ?_
  refine rm_iconst (v := 0) hc dL_ifHeard_1 (by decide) ?_
  refine rm_aload_n hc dL_ifHeard_2 rfl rfl ?_
  refine rm_iload_n hc dL_ifHeard_3 rfl rfl ?_
  refine rm_iload_n hc dL_ifHeard_4 rfl rfl ?_
  refine rm_catV (As := [.int p0, .int p1]) (rest := [.int 0, .ref (ad 16 19 0)]) hc hX [] ⟨0, 10, 13, 13⟩ [⟨0, 10, 17, 15⟩] dL_ifHeard_5 hC mv_L_73 dm_9 rfl rfl (hn := rfl) (hst := rfl) (hw := Nat.le_of_ble_eq_true rfl) (hR := ⟨⟨rfl, rfl⟩, Nat.le_of_ble_eq_true rfl, Nat.le_of_ble_eq_true rfl⟩) (hnc := ⟨Nat.le_of_ble_eq_true rfl, Nat.le_of_ble_eq_true rfl⟩) rfl (fun z hz => nomatch hz) (by decide) (by decide) clL_13 cbL_13 (fun q9 => ?_)
  refine rm_astore (ls' := [(0, .ref (ad 8 9 0)), (1, .int p0), (2, .int p1), (3, .ref (ad 16 19 0)), (4, .ref q9)]) hc dL_ifHeard_13 (by decide) rfl ?_
  refine rm_iconst (v := 1) hc dL_ifHeard_15 (by decide) ?_
  exact rm_iretW hc dL_ifHeard_16 (by decide) (by decide) ⟨rfl, rfl⟩

set_option maxHeartbeats 4000000 in
set_option maxRecDepth 100000 in
theorem w_ifHeard_2 {l : Launch} {D : va_G} {cy : Nat → ClassId} {ad : Ads} (hI : IJ ad) (x : Mem) (p0 p1 : Int32) (hC : Ctx l yX8_ifHeard cX8_ifHeard 3 (some .int) rmx_X8_ifHeard D cy ad [.ref (ad 8 9 0), .int p0, .int p1] x "java/lang/IllegalArgumentException") : Ctw l yL_ifHeard cL_ifHeard 5 hh_ifHeard rmw_ifHeard D cy ad [.ref (ad 8 9 0), .int p0, .int p1, .ref (ad 16 19 0)] x (fun r y => r = 2 ∧ y = x) := by
  refine rm_entryW hI (by decide) (Nat.le_of_ble_eq_true rfl) ?_
  intro p e s m args below meth c hc hX
  show RM _ _ _ _ _ _ _ _ _ _ _ _ _ _ _ _ _ [(0, .ref (ad 8 9 0)), (1, .int p0), (2, .int p1), (3, .ref (ad 16 19 0))] []
  refine rm_aload_n hc dL_ifHeard_0 rfl rfl ?_
  refine rm_iconst (v := 0) hc dL_ifHeard_1 (by decide) ?_
  refine rm_aload_n hc dL_ifHeard_2 rfl rfl ?_
  refine rm_iload_n hc dL_ifHeard_3 rfl rfl ?_
  refine rm_iload_n hc dL_ifHeard_4 rfl rfl ?_
  refine rm_catV (As := [.int p0, .int p1]) (rest := [.int 0, .ref (ad 16 19 0)]) hc hX [⟨0, 10, 13, 13⟩] ⟨0, 10, 17, 15⟩ [] dL_ifHeard_5 hC mv_L_73 dm_9 rfl rfl (hn := rfl) (hst := rfl) (hw := Nat.le_of_ble_eq_true rfl) (hR := ⟨⟨rfl, rfl⟩, Nat.le_of_ble_eq_true rfl, Nat.le_of_ble_eq_true rfl⟩) (hnc := ⟨Nat.le_of_ble_eq_true rfl, Nat.le_of_ble_eq_true rfl⟩) rfl (fun z hz => by simp at hz; subst hz; first | exact ⟨by decide, _, clL_13, by decide +kernel⟩ | exact ⟨by decide, _, clL_15, by decide +kernel⟩) (by decide) (by decide) clL_15 cbL_15 (fun q9 => ?_)
  refine rm_astore (ls' := [(0, .ref (ad 8 9 0)), (1, .int p0), (2, .int p1), (3, .ref (ad 16 19 0)), (4, .ref q9)]) hc dL_ifHeard_17 (by decide) rfl ?_
  refine rm_iconst (v := 2) hc dL_ifHeard_19 (by decide) ?_
  exact rm_iretW hc dL_ifHeard_20 (by decide) (by decide) ⟨rfl, rfl⟩

abbrev rmw_opensIn : Room := { frames := 8, cells := 1, slots := 6, locals := 133 }
abbrev hh_opensIn : List (Nat × Nat × Nat × Nat) := [(0, 10, 13, 13)]

set_option maxHeartbeats 4000000 in
set_option maxRecDepth 100000 in
theorem w_opensIn {l : Launch} {D : va_G} {cy : Nat → ClassId} {ad : Ads} (hI : IJ ad) (x : Mem) (p0 p1 : Int32) {post : Int32 → Mem → Prop} (hC : Cti l yX8_opensIn cX8_opensIn 3 (some .int) rm_X8_opensIn D cy ad [.ref (ad 8 9 0), .int p0, .int p1] x post) : Ctw l yL_opensIn cL_opensIn 5 hh_opensIn rmw_opensIn D cy ad [.ref (ad 8 9 0), .int p0, .int p1, .ref (ad 16 19 0)] x (fun r y => r = 0 ∧ ∃ v z, post v z ∧ y = up z 16 0 v) := by
  refine rm_entryW hI (by decide) (Nat.le_of_ble_eq_true rfl) ?_
  intro p e s m args below meth c hc hX
  show RM _ _ _ _ _ _ _ _ _ _ _ _ _ _ _ _ _ [(0, .ref (ad 8 9 0)), (1, .int p0), (2, .int p1), (3, .ref (ad 16 19 0))] []
  refine rm_aload_n hc dL_opensIn_0 rfl rfl ?_
  refine rm_iconst (v := 0) hc dL_opensIn_1 (by decide) ?_
  refine rm_aload_n hc dL_opensIn_2 rfl rfl ?_
  refine rm_iload_n hc dL_opensIn_3 rfl rfl ?_
  refine rm_iload_n hc dL_opensIn_4 rfl rfl ?_
  refine rm_calliV (As := [.int p0, .int p1]) (rest := [.int 0, .ref (ad 16 19 0)]) hc dL_opensIn_5 hC mv_L_76 dm_9 rfl rfl (hn := rfl) (hst := rfl) (hw := Nat.le_of_ble_eq_true rfl) (hR := ⟨⟨rfl, rfl⟩, Nat.le_of_ble_eq_true rfl, Nat.le_of_ble_eq_true rfl⟩) (hnc := ⟨Nat.zero_le _, Nat.zero_le _⟩) (fun r_1 y_1 h_1 => ?_)
  refine rm_i2l hc dL_opensIn_8 (fun v_2 e_2 => ?_)
  refine rm_last (r := r_1) hc dL_opensIn_9 e_2 ?_
  refine rm_goto (tgt := 17) hc dL_opensIn_10 (by decide) ?_
  refine rm_iconst (v := 0) hc dL_opensIn_17 (by decide) ?_
  exact rm_iretW hc dL_opensIn_18 (by decide) (by decide) ⟨rfl, r_1, y_1, h_1, rfl⟩

set_option maxHeartbeats 4000000 in
set_option maxRecDepth 100000 in
theorem w_opensIn_1 {l : Launch} {D : va_G} {cy : Nat → ClassId} {ad : Ads} (hI : IJ ad) (x : Mem) (p0 p1 : Int32) (hC : Ctx l yX8_opensIn cX8_opensIn 3 (some .int) rmx_X8_opensIn D cy ad [.ref (ad 8 9 0), .int p0, .int p1] x "java/lang/IndexOutOfBoundsException") : Ctw l yL_opensIn cL_opensIn 5 hh_opensIn rmw_opensIn D cy ad [.ref (ad 8 9 0), .int p0, .int p1, .ref (ad 16 19 0)] x (fun r y => r = 1 ∧ y = x) := by
  refine rm_entryW hI (by decide) (Nat.le_of_ble_eq_true rfl) ?_
  intro p e s m args below meth c hc hX
  show RM _ _ _ _ _ _ _ _ _ _ _ _ _ _ _ _ _ [(0, .ref (ad 8 9 0)), (1, .int p0), (2, .int p1), (3, .ref (ad 16 19 0))] []
  refine rm_aload_n hc dL_opensIn_0 rfl rfl ?_
  refine rm_iconst (v := 0) hc dL_opensIn_1 (by decide) ?_
  refine rm_aload_n hc dL_opensIn_2 rfl rfl ?_
  refine rm_iload_n hc dL_opensIn_3 rfl rfl ?_
  refine rm_iload_n hc dL_opensIn_4 rfl rfl ?_
  refine rm_catV (As := [.int p0, .int p1]) (rest := [.int 0, .ref (ad 16 19 0)]) hc hX [] ⟨0, 10, 13, 13⟩ [] dL_opensIn_5 hC mv_L_76 dm_9 rfl rfl (hn := rfl) (hst := rfl) (hw := Nat.le_of_ble_eq_true rfl) (hR := ⟨⟨rfl, rfl⟩, Nat.le_of_ble_eq_true rfl, Nat.le_of_ble_eq_true rfl⟩) (hnc := ⟨Nat.le_of_ble_eq_true rfl, Nat.le_of_ble_eq_true rfl⟩) rfl (fun z hz => nomatch hz) (by decide) (by decide) clL_13 cbL_13 (fun q9 => ?_)
  refine rm_astore (ls' := [(0, .ref (ad 8 9 0)), (1, .int p0), (2, .int p1), (3, .ref (ad 16 19 0)), (4, .ref q9)]) hc dL_opensIn_13 (by decide) rfl ?_
  refine rm_iconst (v := 1) hc dL_opensIn_15 (by decide) ?_
  exact rm_iretW hc dL_opensIn_16 (by decide) (by decide) ⟨rfl, rfl⟩

abbrev rmw_unheard : Room := { frames := 8, cells := 1, slots := 6, locals := 141 }
abbrev hh_unheard : List (Nat × Nat × Nat × Nat) := [(0, 10, 13, 13)]

set_option maxHeartbeats 4000000 in
set_option maxRecDepth 100000 in
theorem w_unheard {l : Launch} {D : va_G} {cy : Nat → ClassId} {ad : Ads} (hI : IJ ad) (x : Mem) (p0 p1 : Int32) {post : Int32 → Mem → Prop} (hC : Cti l yX8_unheard cX8_unheard 3 (some .int) rm_X8_unheard D cy ad [.ref (ad 8 9 0), .int p0, .int p1] x post) : Ctw l yL_unheard cL_unheard 5 hh_unheard rmw_unheard D cy ad [.ref (ad 8 9 0), .int p0, .int p1, .ref (ad 16 19 0)] x (fun r y => r = 0 ∧ ∃ v z, post v z ∧ y = up z 16 0 v) := by
  refine rm_entryW hI (by decide) (Nat.le_of_ble_eq_true rfl) ?_
  intro p e s m args below meth c hc hX
  show RM _ _ _ _ _ _ _ _ _ _ _ _ _ _ _ _ _ [(0, .ref (ad 8 9 0)), (1, .int p0), (2, .int p1), (3, .ref (ad 16 19 0))] []
  refine rm_aload_n hc dL_unheard_0 rfl rfl ?_
  refine rm_iconst (v := 0) hc dL_unheard_1 (by decide) ?_
  refine rm_aload_n hc dL_unheard_2 rfl rfl ?_
  refine rm_iload_n hc dL_unheard_3 rfl rfl ?_
  refine rm_iload_n hc dL_unheard_4 rfl rfl ?_
  refine rm_calliV (As := [.int p0, .int p1]) (rest := [.int 0, .ref (ad 16 19 0)]) hc dL_unheard_5 hC mv_L_79 dm_9 rfl rfl (hn := rfl) (hst := rfl) (hw := Nat.le_of_ble_eq_true rfl) (hR := ⟨⟨rfl, rfl⟩, Nat.le_of_ble_eq_true rfl, Nat.le_of_ble_eq_true rfl⟩) (hnc := ⟨Nat.zero_le _, Nat.zero_le _⟩) (fun r_1 y_1 h_1 => ?_)
  refine rm_i2l hc dL_unheard_8 (fun v_2 e_2 => ?_)
  refine rm_last (r := r_1) hc dL_unheard_9 e_2 ?_
  refine rm_goto (tgt := 17) hc dL_unheard_10 (by decide) ?_
  refine rm_iconst (v := 0) hc dL_unheard_17 (by decide) ?_
  exact rm_iretW hc dL_unheard_18 (by decide) (by decide) ⟨rfl, r_1, y_1, h_1, rfl⟩

set_option maxHeartbeats 4000000 in
set_option maxRecDepth 100000 in
theorem w_unheard_1 {l : Launch} {D : va_G} {cy : Nat → ClassId} {ad : Ads} (hI : IJ ad) (x : Mem) (p0 p1 : Int32) (hC : Ctx l yX8_unheard cX8_unheard 3 (some .int) rmx_X8_unheard D cy ad [.ref (ad 8 9 0), .int p0, .int p1] x "java/lang/IndexOutOfBoundsException") : Ctw l yL_unheard cL_unheard 5 hh_unheard rmw_unheard D cy ad [.ref (ad 8 9 0), .int p0, .int p1, .ref (ad 16 19 0)] x (fun r y => r = 1 ∧ y = x) := by
  refine rm_entryW hI (by decide) (Nat.le_of_ble_eq_true rfl) ?_
  intro p e s m args below meth c hc hX
  show RM _ _ _ _ _ _ _ _ _ _ _ _ _ _ _ _ _ [(0, .ref (ad 8 9 0)), (1, .int p0), (2, .int p1), (3, .ref (ad 16 19 0))] []
  refine rm_aload_n hc dL_unheard_0 rfl rfl ?_
  refine rm_iconst (v := 0) hc dL_unheard_1 (by decide) ?_
  refine rm_aload_n hc dL_unheard_2 rfl rfl ?_
  refine rm_iload_n hc dL_unheard_3 rfl rfl ?_
  refine rm_iload_n hc dL_unheard_4 rfl rfl ?_
  refine rm_catV (As := [.int p0, .int p1]) (rest := [.int 0, .ref (ad 16 19 0)]) hc hX [] ⟨0, 10, 13, 13⟩ [] dL_unheard_5 hC mv_L_79 dm_9 rfl rfl (hn := rfl) (hst := rfl) (hw := Nat.le_of_ble_eq_true rfl) (hR := ⟨⟨rfl, rfl⟩, Nat.le_of_ble_eq_true rfl, Nat.le_of_ble_eq_true rfl⟩) (hnc := ⟨Nat.le_of_ble_eq_true rfl, Nat.le_of_ble_eq_true rfl⟩) rfl (fun z hz => nomatch hz) (by decide) (by decide) clL_13 cbL_13 (fun q9 => ?_)
  refine rm_astore (ls' := [(0, .ref (ad 8 9 0)), (1, .int p0), (2, .int p1), (3, .ref (ad 16 19 0)), (4, .ref q9)]) hc dL_unheard_13 (by decide) rfl ?_
  refine rm_iconst (v := 1) hc dL_unheard_15 (by decide) ?_
  exact rm_iretW hc dL_unheard_16 (by decide) (by decide) ⟨rfl, rfl⟩

abbrev rmw_useful : Room := { frames := 8, cells := 1, slots := 6, locals := 137 }
abbrev hh_useful : List (Nat × Nat × Nat × Nat) := [(0, 9, 12, 13)]

set_option maxHeartbeats 4000000 in
set_option maxRecDepth 100000 in
theorem w_useful {l : Launch} {D : va_G} {cy : Nat → ClassId} {ad : Ads} (hI : IJ ad) (x : Mem) (p0 : Int32) {post : Int32 → Mem → Prop} (hC : Cti l yX8_useful cX8_useful 2 (some .int) rm_X8_useful D cy ad [.ref (ad 8 9 0), .int p0] x post) : Ctw l yL_useful cL_useful 4 hh_useful rmw_useful D cy ad [.ref (ad 8 9 0), .int p0, .ref (ad 16 19 0)] x (fun r y => r = 0 ∧ ∃ v z, post v z ∧ y = up z 16 0 v) := by
  refine rm_entryW hI (by decide) (Nat.le_of_ble_eq_true rfl) ?_
  intro p e s m args below meth c hc hX
  show RM _ _ _ _ _ _ _ _ _ _ _ _ _ _ _ _ _ [(0, .ref (ad 8 9 0)), (1, .int p0), (2, .ref (ad 16 19 0))] []
  refine rm_aload_n hc dL_useful_0 rfl rfl ?_
  refine rm_iconst (v := 0) hc dL_useful_1 (by decide) ?_
  refine rm_aload_n hc dL_useful_2 rfl rfl ?_
  refine rm_iload_n hc dL_useful_3 rfl rfl ?_
  refine rm_calliV (As := [.int p0]) (rest := [.int 0, .ref (ad 16 19 0)]) hc dL_useful_4 hC mv_L_82 dm_9 rfl rfl (hn := rfl) (hst := rfl) (hw := Nat.le_of_ble_eq_true rfl) (hR := ⟨⟨rfl, rfl⟩, Nat.le_of_ble_eq_true rfl, Nat.le_of_ble_eq_true rfl⟩) (hnc := ⟨Nat.zero_le _, Nat.zero_le _⟩) (fun r_1 y_1 h_1 => ?_)
  refine rm_i2l hc dL_useful_7 (fun v_2 e_2 => ?_)
  refine rm_last (r := r_1) hc dL_useful_8 e_2 ?_
  refine rm_goto (tgt := 15) hc dL_useful_9 (by decide) ?_
  refine rm_iconst (v := 0) hc dL_useful_15 (by decide) ?_
  exact rm_iretW hc dL_useful_16 (by decide) (by decide) ⟨rfl, r_1, y_1, h_1, rfl⟩

set_option maxHeartbeats 4000000 in
set_option maxRecDepth 100000 in
theorem w_useful_1 {l : Launch} {D : va_G} {cy : Nat → ClassId} {ad : Ads} (hI : IJ ad) (x : Mem) (p0 : Int32) (hC : Ctx l yX8_useful cX8_useful 2 (some .int) rmx_X8_useful D cy ad [.ref (ad 8 9 0), .int p0] x "java/lang/IndexOutOfBoundsException") : Ctw l yL_useful cL_useful 4 hh_useful rmw_useful D cy ad [.ref (ad 8 9 0), .int p0, .ref (ad 16 19 0)] x (fun r y => r = 1 ∧ y = x) := by
  refine rm_entryW hI (by decide) (Nat.le_of_ble_eq_true rfl) ?_
  intro p e s m args below meth c hc hX
  show RM _ _ _ _ _ _ _ _ _ _ _ _ _ _ _ _ _ [(0, .ref (ad 8 9 0)), (1, .int p0), (2, .ref (ad 16 19 0))] []
  refine rm_aload_n hc dL_useful_0 rfl rfl ?_
  refine rm_iconst (v := 0) hc dL_useful_1 (by decide) ?_
  refine rm_aload_n hc dL_useful_2 rfl rfl ?_
  refine rm_iload_n hc dL_useful_3 rfl rfl ?_
  refine rm_catV (As := [.int p0]) (rest := [.int 0, .ref (ad 16 19 0)]) hc hX [] ⟨0, 9, 12, 13⟩ [] dL_useful_4 hC mv_L_82 dm_9 rfl rfl (hn := rfl) (hst := rfl) (hw := Nat.le_of_ble_eq_true rfl) (hR := ⟨⟨rfl, rfl⟩, Nat.le_of_ble_eq_true rfl, Nat.le_of_ble_eq_true rfl⟩) (hnc := ⟨Nat.le_of_ble_eq_true rfl, Nat.le_of_ble_eq_true rfl⟩) rfl (fun z hz => nomatch hz) (by decide) (by decide) clL_13 cbL_13 (fun q9 => ?_)
  refine rm_astore_n (ls' := [(0, .ref (ad 8 9 0)), (1, .int p0), (2, .ref (ad 16 19 0)), (3, .ref q9)]) hc dL_useful_12 rfl (by decide) rfl ?_
  refine rm_iconst (v := 1) hc dL_useful_13 (by decide) ?_
  exact rm_iretW hc dL_useful_14 (by decide) (by decide) ⟨rfl, rfl⟩
