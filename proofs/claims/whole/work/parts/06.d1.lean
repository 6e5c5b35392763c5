theorem d_S_init_0 : decode c_S_init 0 = .ok (.aload_n 0, 1) := by decide +kernel
theorem d_S_init_1 : decode c_S_init 1 = .ok (.invokespecial 1, 3) := by decide +kernel
theorem d_S_init_4 : decode c_S_init 4 = .ok (.aload_n 0, 1) := by decide +kernel
theorem d_S_init_5 : decode c_S_init 5 = .ok (.new 7, 3) := by decide +kernel
theorem d_S_init_8 : decode c_S_init 8 = .ok (.dup, 1) := by decide +kernel
theorem d_S_init_9 : decode c_S_init 9 = .ok (.invokespecial 9, 3) := by decide +kernel
theorem d_S_init_12 : decode c_S_init 12 = .ok (.putfield 10, 3) := by decide +kernel
theorem d_S_init_15 : decode c_S_init 15 = .ok (.aload_n 0, 1) := by decide +kernel
theorem d_S_init_16 : decode c_S_init 16 = .ok (.new 16, 3) := by decide +kernel
theorem d_S_init_19 : decode c_S_init 19 = .ok (.dup, 1) := by decide +kernel
theorem d_S_init_20 : decode c_S_init 20 = .ok (.aload_n 0, 1) := by decide +kernel
theorem d_S_init_21 : decode c_S_init 21 = .ok (.getfield 10, 3) := by decide +kernel
theorem d_S_init_24 : decode c_S_init 24 = .ok (.invokespecial 18, 3) := by decide +kernel
theorem d_S_init_27 : decode c_S_init 27 = .ok (.putfield 21, 3) := by decide +kernel
theorem d_S_init_30 : decode c_S_init 30 = .ok (.aload_n 0, 1) := by decide +kernel
theorem d_S_init_31 : decode c_S_init 31 = .ok (.iconst 4, 1) := by decide +kernel
theorem d_S_init_32 : decode c_S_init 32 = .ok (.anewarray 25, 3) := by decide +kernel
theorem d_S_init_35 : decode c_S_init 35 = .ok (.putfield 27, 3) := by decide +kernel
theorem d_S_init_38 : decode c_S_init 38 = .ok (.iconst 0, 1) := by decide +kernel
theorem d_S_init_39 : decode c_S_init 39 = .ok (.istore_n 1, 1) := by decide +kernel
theorem d_S_init_40 : decode c_S_init 40 = .ok (.iload_n 1, 1) := by decide +kernel
theorem d_S_init_41 : decode c_S_init 41 = .ok (.iconst 4, 1) := by decide +kernel
theorem d_S_init_42 : decode c_S_init 42 = .ok (.if_icmp .ge 27, 3) := by decide +kernel
theorem d_S_init_45 : decode c_S_init 45 = .ok (.aload_n 0, 1) := by decide +kernel
theorem d_S_init_46 : decode c_S_init 46 = .ok (.getfield 27, 3) := by decide +kernel
theorem d_S_init_49 : decode c_S_init 49 = .ok (.iload_n 1, 1) := by decide +kernel
theorem d_S_init_50 : decode c_S_init 50 = .ok (.new 25, 3) := by decide +kernel
theorem d_S_init_53 : decode c_S_init 53 = .ok (.dup, 1) := by decide +kernel
theorem d_S_init_54 : decode c_S_init 54 = .ok (.iload_n 1, 1) := by decide +kernel
theorem d_S_init_55 : decode c_S_init 55 = .ok (.aload_n 0, 1) := by decide +kernel
theorem d_S_init_56 : decode c_S_init 56 = .ok (.getfield 10, 3) := by decide +kernel
theorem d_S_init_59 : decode c_S_init 59 = .ok (.invokespecial 31, 3) := by decide +kernel
theorem d_S_init_62 : decode c_S_init 62 = .ok (.aastore, 1) := by decide +kernel
theorem d_S_init_63 : decode c_S_init 63 = .ok (.iinc 1 1, 3) := by decide +kernel
theorem d_S_init_66 : decode c_S_init 66 = .ok (.goto (-26), 3) := by decide +kernel
theorem d_S_init_69 : decode c_S_init 69 = .ok (.return_, 1) := by decide +kernel
theorem d_S_load_0 : decode c_S_load 0 = .ok (.iload_n 1, 1) := by decide +kernel
theorem d_S_load_1 : decode c_S_load 1 = .ok (.iload_n 2, 1) := by decide +kernel
theorem d_S_load_2 : decode c_S_load 2 = .ok (.invokestatic 34, 3) := by decide +kernel
theorem d_S_load_5 : decode c_S_load 5 = .ok (.ifCond .eq 18, 3) := by decide +kernel
theorem d_S_load_8 : decode c_S_load 8 = .ok (.aload_n 0, 1) := by decide +kernel
theorem d_S_load_9 : decode c_S_load 9 = .ok (.getfield 27, 3) := by decide +kernel
theorem d_S_load_12 : decode c_S_load 12 = .ok (.iload_n 1, 1) := by decide +kernel
theorem d_S_load_13 : decode c_S_load 13 = .ok (.aaload, 1) := by decide +kernel
theorem d_S_load_14 : decode c_S_load 14 = .ok (.iconst 0, 1) := by decide +kernel
theorem d_S_load_15 : decode c_S_load 15 = .ok (.iload_n 2, 1) := by decide +kernel
theorem d_S_load_16 : decode c_S_load 16 = .ok (.iconst 0, 1) := by decide +kernel
theorem d_S_load_17 : decode c_S_load 17 = .ok (.invokevirtual 38, 3) := by decide +kernel
theorem d_S_load_20 : decode c_S_load 20 = .ok (.goto 4, 3) := by decide +kernel
theorem d_S_load_23 : decode c_S_load 23 = .ok (.iconst (-1), 1) := by decide +kernel
theorem d_S_load_24 : decode c_S_load 24 = .ok (.ireturn, 1) := by decide +kernel
theorem d_S_store_0 : decode c_S_store 0 = .ok (.iload_n 1, 1) := by decide +kernel
theorem d_S_store_1 : decode c_S_store 1 = .ok (.iload_n 2, 1) := by decide +kernel
theorem d_S_store_2 : decode c_S_store 2 = .ok (.invokestatic 34, 3) := by decide +kernel
theorem d_S_store_5 : decode c_S_store 5 = .ok (.ifCond .eq 18, 3) := by decide +kernel
theorem d_S_store_8 : decode c_S_store 8 = .ok (.aload_n 0, 1) := by decide +kernel
theorem d_S_store_9 : decode c_S_store 9 = .ok (.getfield 27, 3) := by decide +kernel
theorem d_S_store_12 : decode c_S_store 12 = .ok (.iload_n 1, 1) := by decide +kernel
theorem d_S_store_13 : decode c_S_store 13 = .ok (.aaload, 1) := by decide +kernel
theorem d_S_store_14 : decode c_S_store 14 = .ok (.iconst 1, 1) := by decide +kernel
theorem d_S_store_15 : decode c_S_store 15 = .ok (.iload_n 2, 1) := by decide +kernel
theorem d_S_store_16 : decode c_S_store 16 = .ok (.iload_n 3, 1) := by decide +kernel
theorem d_S_store_17 : decode c_S_store 17 = .ok (.invokevirtual 38, 3) := by decide +kernel
theorem d_S_store_20 : decode c_S_store 20 = .ok (.goto 4, 3) := by decide +kernel
theorem d_S_store_23 : decode c_S_store 23 = .ok (.iconst (-1), 1) := by decide +kernel
theorem d_S_store_24 : decode c_S_store 24 = .ok (.ireturn, 1) := by decide +kernel
theorem d_S_add_0 : decode c_S_add 0 = .ok (.iload_n 1, 1) := by decide +kernel
theorem d_S_add_1 : decode c_S_add 1 = .ok (.iload_n 2, 1) := by decide +kernel
theorem d_S_add_2 : decode c_S_add 2 = .ok (.invokestatic 34, 3) := by decide +kernel
theorem d_S_add_5 : decode c_S_add 5 = .ok (.ifCond .eq 18, 3) := by decide +kernel
theorem d_S_add_8 : decode c_S_add 8 = .ok (.aload_n 0, 1) := by decide +kernel
theorem d_S_add_9 : decode c_S_add 9 = .ok (.getfield 27, 3) := by decide +kernel
theorem d_S_add_12 : decode c_S_add 12 = .ok (.iload_n 1, 1) := by decide +kernel
theorem d_S_add_13 : decode c_S_add 13 = .ok (.aaload, 1) := by decide +kernel
theorem d_S_add_14 : decode c_S_add 14 = .ok (.iconst 2, 1) := by decide +kernel
theorem d_S_add_15 : decode c_S_add 15 = .ok (.iload_n 2, 1) := by decide +kernel
theorem d_S_add_16 : decode c_S_add 16 = .ok (.iload_n 3, 1) := by decide +kernel
theorem d_S_add_17 : decode c_S_add 17 = .ok (.invokevirtual 38, 3) := by decide +kernel
theorem d_S_add_20 : decode c_S_add 20 = .ok (.goto 4, 3) := by decide +kernel
theorem d_S_add_23 : decode c_S_add 23 = .ok (.iconst (-1), 1) := by decide +kernel
theorem d_S_add_24 : decode c_S_add 24 = .ok (.ireturn, 1) := by decide +kernel
theorem d_S_leave_0 : decode c_S_leave 0 = .ok (.iload_n 1, 1) := by decide +kernel
theorem d_S_leave_1 : decode c_S_leave 1 = .ok (.iload_n 2, 1) := by decide +kernel
theorem d_S_leave_2 : decode c_S_leave 2 = .ok (.invokestatic 34, 3) := by decide +kernel
theorem d_S_leave_5 : decode c_S_leave 5 = .ok (.ifCond .eq 16, 3) := by decide +kernel
theorem d_S_leave_8 : decode c_S_leave 8 = .ok (.aload_n 0, 1) := by decide +kernel
theorem d_S_leave_9 : decode c_S_leave 9 = .ok (.getfield 27, 3) := by decide +kernel
theorem d_S_leave_12 : decode c_S_leave 12 = .ok (.iload_n 1, 1) := by decide +kernel
theorem d_S_leave_13 : decode c_S_leave 13 = .ok (.aaload, 1) := by decide +kernel
theorem d_S_leave_14 : decode c_S_leave 14 = .ok (.iload_n 2, 1) := by decide +kernel
theorem d_S_leave_15 : decode c_S_leave 15 = .ok (.invokevirtual 42, 3) := by decide +kernel
theorem d_S_leave_18 : decode c_S_leave 18 = .ok (.goto 4, 3) := by decide +kernel
theorem d_S_leave_21 : decode c_S_leave 21 = .ok (.iconst (-1), 1) := by decide +kernel
theorem d_S_leave_22 : decode c_S_leave 22 = .ok (.ireturn, 1) := by decide +kernel
theorem d_S_deliver_0 : decode c_S_deliver 0 = .ok (.aload_n 0, 1) := by decide +kernel
theorem d_S_deliver_1 : decode c_S_deliver 1 = .ok (.getfield 10, 3) := by decide +kernel
theorem d_S_deliver_4 : decode c_S_deliver 4 = .ok (.iload_n 1, 1) := by decide +kernel
theorem d_S_deliver_5 : decode c_S_deliver 5 = .ok (.invokevirtual 46, 3) := by decide +kernel
theorem d_S_deliver_8 : decode c_S_deliver 8 = .ok (.ifCond .ne 5, 3) := by decide +kernel
theorem d_S_deliver_11 : decode c_S_deliver 11 = .ok (.iconst (-1), 1) := by decide +kernel
theorem d_S_deliver_12 : decode c_S_deliver 12 = .ok (.ireturn, 1) := by decide +kernel
theorem d_S_deliver_13 : decode c_S_deliver 13 = .ok (.aload_n 0, 1) := by decide +kernel
theorem d_S_deliver_14 : decode c_S_deliver 14 = .ok (.iload_n 1, 1) := by decide +kernel
theorem d_S_deliver_15 : decode c_S_deliver 15 = .ok (.invokevirtual 50, 3) := by decide +kernel
theorem d_S_deliver_18 : decode c_S_deliver 18 = .ok (.istore_n 2, 1) := by decide +kernel
theorem d_S_deliver_19 : decode c_S_deliver 19 = .ok (.iload_n 2, 1) := by decide +kernel
theorem d_S_deliver_20 : decode c_S_deliver 20 = .ok (.iconst 2, 1) := by decide +kernel
theorem d_S_deliver_21 : decode c_S_deliver 21 = .ok (.if_icmp .ne 8, 3) := by decide +kernel
theorem d_S_deliver_24 : decode c_S_deliver 24 = .ok (.aload_n 0, 1) := by decide +kernel
theorem d_S_deliver_25 : decode c_S_deliver 25 = .ok (.iload_n 1, 1) := by decide +kernel
theorem d_S_deliver_26 : decode c_S_deliver 26 = .ok (.invokevirtual 53, 3) := by decide +kernel
theorem d_S_deliver_29 : decode c_S_deliver 29 = .ok (.iload_n 2, 1) := by decide +kernel
theorem d_S_deliver_30 : decode c_S_deliver 30 = .ok (.ireturn, 1) := by decide +kernel
theorem d_S_message_0 : decode c_S_message 0 = .ok (.iload_n 1, 1) := by decide +kernel
theorem d_S_message_1 : decode c_S_message 1 = .ok (.iconst (-1), 1) := by decide +kernel
theorem d_S_message_2 : decode c_S_message 2 = .ok (.if_icmp .ne 11, 3) := by decide +kernel
theorem d_S_message_5 : decode c_S_message 5 = .ok (.aload_n 0, 1) := by decide +kernel
theorem d_S_message_6 : decode c_S_message 6 = .ok (.getfield 10, 3) := by decide +kernel
theorem d_S_message_9 : decode c_S_message 9 = .ok (.getfield 57, 3) := by decide +kernel
theorem d_S_message_12 : decode c_S_message 12 = .ok (.ireturn, 1) := by decide +kernel
theorem d_S_message_13 : decode c_S_message 13 = .ok (.aload_n 0, 1) := by decide +kernel
theorem d_S_message_14 : decode c_S_message 14 = .ok (.getfield 10, 3) := by decide +kernel
theorem d_S_message_17 : decode c_S_message 17 = .ok (.iload_n 1, 1) := by decide +kernel
theorem d_S_message_18 : decode c_S_message 18 = .ok (.invokevirtual 46, 3) := by decide +kernel
theorem d_S_message_21 : decode c_S_message 21 = .ok (.ifCond .eq 12, 3) := by decide +kernel
theorem d_S_message_24 : decode c_S_message 24 = .ok (.iload_n 2, 1) := by decide +kernel
theorem d_S_message_25 : decode c_S_message 25 = .ok (.ifCond .lt 8, 3) := by decide +kernel
theorem d_S_message_28 : decode c_S_message 28 = .ok (.iload_n 2, 1) := by decide +kernel
theorem d_S_message_29 : decode c_S_message 29 = .ok (.iconst 5, 1) := by decide +kernel
theorem d_S_message_30 : decode c_S_message 30 = .ok (.if_icmp .le 5, 3) := by decide +kernel
theorem d_S_message_33 : decode c_S_message 33 = .ok (.iconst (-1), 1) := by decide +kernel
theorem d_S_message_34 : decode c_S_message 34 = .ok (.ireturn, 1) := by decide +kernel
theorem d_S_message_35 : decode c_S_message 35 = .ok (.aload_n 0, 1) := by decide +kernel
theorem d_S_message_36 : decode c_S_message 36 = .ok (.getfield 10, 3) := by decide +kernel
theorem d_S_message_39 : decode c_S_message 39 = .ok (.iload_n 1, 1) := by decide +kernel
theorem d_S_message_40 : decode c_S_message 40 = .ok (.iload_n 2, 1) := by decide +kernel
theorem d_S_message_41 : decode c_S_message 41 = .ok (.invokevirtual 61, 3) := by decide +kernel
theorem d_S_message_44 : decode c_S_message 44 = .ok (.ireturn, 1) := by decide +kernel
theorem d_S_carried_0 : decode c_S_carried 0 = .ok (.aload_n 0, 1) := by decide +kernel
theorem d_S_carried_1 : decode c_S_carried 1 = .ok (.getfield 10, 3) := by decide +kernel
theorem d_S_carried_4 : decode c_S_carried 4 = .ok (.iload_n 1, 1) := by decide +kernel
theorem d_S_carried_5 : decode c_S_carried 5 = .ok (.invokevirtual 46, 3) := by decide +kernel
theorem d_S_carried_8 : decode c_S_carried 8 = .ok (.ifCond .eq 16, 3) := by decide +kernel
theorem d_S_carried_11 : decode c_S_carried 11 = .ok (.aload_n 0, 1) := by decide +kernel
theorem d_S_carried_12 : decode c_S_carried 12 = .ok (.getfield 10, 3) := by decide +kernel
theorem d_S_carried_15 : decode c_S_carried 15 = .ok (.iload_n 1, 1) := by decide +kernel
theorem d_S_carried_16 : decode c_S_carried 16 = .ok (.bipush 6, 2) := by decide +kernel
theorem d_S_carried_18 : decode c_S_carried 18 = .ok (.invokevirtual 61, 3) := by decide +kernel
theorem d_S_carried_21 : decode c_S_carried 21 = .ok (.goto 4, 3) := by decide +kernel
theorem d_S_carried_24 : decode c_S_carried 24 = .ok (.iconst 0, 1) := by decide +kernel
theorem d_S_carried_25 : decode c_S_carried 25 = .ok (.ireturn, 1) := by decide +kernel
theorem d_S_state_0 : decode c_S_state 0 = .ok (.iload_n 1, 1) := by decide +kernel
theorem d_S_state_1 : decode c_S_state 1 = .ok (.iload_n 2, 1) := by decide +kernel
theorem d_S_state_2 : decode c_S_state 2 = .ok (.invokestatic 34, 3) := by decide +kernel
theorem d_S_state_5 : decode c_S_state 5 = .ok (.ifCond .eq 17, 3) := by decide +kernel
theorem d_S_state_8 : decode c_S_state 8 = .ok (.aload_n 0, 1) := by decide +kernel
theorem d_S_state_9 : decode c_S_state 9 = .ok (.getfield 27, 3) := by decide +kernel
theorem d_S_state_12 : decode c_S_state 12 = .ok (.iload_n 1, 1) := by decide +kernel
theorem d_S_state_13 : decode c_S_state 13 = .ok (.aaload, 1) := by decide +kernel
theorem d_S_state_14 : decode c_S_state 14 = .ok (.getfield 65, 3) := by decide +kernel
theorem d_S_state_17 : decode c_S_state 17 = .ok (.iload_n 2, 1) := by decide +kernel
theorem d_S_state_18 : decode c_S_state 18 = .ok (.iaload, 1) := by decide +kernel
theorem d_S_state_19 : decode c_S_state 19 = .ok (.goto 4, 3) := by decide +kernel
theorem d_S_state_22 : decode c_S_state 22 = .ok (.iconst (-1), 1) := by decide +kernel
theorem d_S_state_23 : decode c_S_state 23 = .ok (.ireturn, 1) := by decide +kernel
theorem d_S_value_0 : decode c_S_value 0 = .ok (.iload_n 1, 1) := by decide +kernel
theorem d_S_value_1 : decode c_S_value 1 = .ok (.iload_n 2, 1) := by decide +kernel
theorem d_S_value_2 : decode c_S_value 2 = .ok (.invokestatic 34, 3) := by decide +kernel
theorem d_S_value_5 : decode c_S_value 5 = .ok (.ifCond .eq 16, 3) := by decide +kernel
theorem d_S_value_8 : decode c_S_value 8 = .ok (.aload_n 0, 1) := by decide +kernel
theorem d_S_value_9 : decode c_S_value 9 = .ok (.getfield 27, 3) := by decide +kernel
theorem d_S_value_12 : decode c_S_value 12 = .ok (.iload_n 1, 1) := by decide +kernel
theorem d_S_value_13 : decode c_S_value 13 = .ok (.aaload, 1) := by decide +kernel
theorem d_S_value_14 : decode c_S_value 14 = .ok (.iload_n 2, 1) := by decide +kernel
theorem d_S_value_15 : decode c_S_value 15 = .ok (.invokevirtual 69, 3) := by decide +kernel
theorem d_S_value_18 : decode c_S_value 18 = .ok (.goto 4, 3) := by decide +kernel
theorem d_S_value_21 : decode c_S_value 21 = .ok (.iconst 0, 1) := by decide +kernel
theorem d_S_value_22 : decode c_S_value 22 = .ok (.ireturn, 1) := by decide +kernel
theorem d_S_due_0 : decode c_S_due 0 = .ok (.iload_n 1, 1) := by decide +kernel
theorem d_S_due_1 : decode c_S_due 1 = .ok (.iload_n 2, 1) := by decide +kernel
theorem d_S_due_2 : decode c_S_due 2 = .ok (.invokestatic 34, 3) := by decide +kernel
theorem d_S_due_5 : decode c_S_due 5 = .ok (.ifCond .eq 16, 3) := by decide +kernel
theorem d_S_due_8 : decode c_S_due 8 = .ok (.aload_n 0, 1) := by decide +kernel
theorem d_S_due_9 : decode c_S_due 9 = .ok (.getfield 27, 3) := by decide +kernel
theorem d_S_due_12 : decode c_S_due 12 = .ok (.iload_n 1, 1) := by decide +kernel
theorem d_S_due_13 : decode c_S_due 13 = .ok (.aaload, 1) := by decide +kernel
theorem d_S_due_14 : decode c_S_due 14 = .ok (.iload_n 2, 1) := by decide +kernel
theorem d_S_due_15 : decode c_S_due 15 = .ok (.invokevirtual 72, 3) := by decide +kernel
theorem d_S_due_18 : decode c_S_due 18 = .ok (.goto 4, 3) := by decide +kernel
theorem d_S_due_21 : decode c_S_due 21 = .ok (.iconst (-1), 1) := by decide +kernel
theorem d_S_due_22 : decode c_S_due 22 = .ok (.ireturn, 1) := by decide +kernel
theorem d_S_home_0 : decode c_S_home 0 = .ok (.iload_n 1, 1) := by decide +kernel
theorem d_S_home_1 : decode c_S_home 1 = .ok (.invokestatic 75, 3) := by decide +kernel
theorem d_S_home_4 : decode c_S_home 4 = .ok (.ifCond .eq 14, 3) := by decide +kernel
theorem d_S_home_7 : decode c_S_home 7 = .ok (.aload_n 0, 1) := by decide +kernel
theorem d_S_home_8 : decode c_S_home 8 = .ok (.getfield 21, 3) := by decide +kernel
theorem d_S_home_11 : decode c_S_home 11 = .ok (.iload_n 1, 1) := by decide +kernel
theorem d_S_home_12 : decode c_S_home 12 = .ok (.invokevirtual 78, 3) := by decide +kernel
theorem d_S_home_15 : decode c_S_home 15 = .ok (.goto 4, 3) := by decide +kernel
theorem d_S_home_18 : decode c_S_home 18 = .ok (.iconst (-1), 1) := by decide +kernel
theorem d_S_home_19 : decode c_S_home 19 = .ok (.ireturn, 1) := by decide +kernel
theorem d_S_memory_0 : decode c_S_memory 0 = .ok (.iload_n 1, 1) := by decide +kernel
theorem d_S_memory_1 : decode c_S_memory 1 = .ok (.invokestatic 75, 3) := by decide +kernel
theorem d_S_memory_4 : decode c_S_memory 4 = .ok (.ifCond .eq 15, 3) := by decide +kernel
theorem d_S_memory_7 : decode c_S_memory 7 = .ok (.aload_n 0, 1) := by decide +kernel
theorem d_S_memory_8 : decode c_S_memory 8 = .ok (.getfield 21, 3) := by decide +kernel
theorem d_S_memory_11 : decode c_S_memory 11 = .ok (.getfield 81, 3) := by decide +kernel
theorem d_S_memory_14 : decode c_S_memory 14 = .ok (.iload_n 1, 1) := by decide +kernel
theorem d_S_memory_15 : decode c_S_memory 15 = .ok (.iaload, 1) := by decide +kernel
theorem d_S_memory_16 : decode c_S_memory 16 = .ok (.goto 4, 3) := by decide +kernel
theorem d_S_memory_19 : decode c_S_memory 19 = .ok (.iconst 0, 1) := by decide +kernel
theorem d_S_memory_20 : decode c_S_memory 20 = .ok (.ireturn, 1) := by decide +kernel
theorem d_S_waits_0 : decode c_S_waits 0 = .ok (.iload_n 1, 1) := by decide +kernel
theorem d_S_waits_1 : decode c_S_waits 1 = .ok (.invokestatic 84, 3) := by decide +kernel
theorem d_S_waits_4 : decode c_S_waits 4 = .ok (.ifCond .eq 19, 3) := by decide +kernel
theorem d_S_waits_7 : decode c_S_waits 7 = .ok (.aload_n 0, 1) := by decide +kernel
theorem d_S_waits_8 : decode c_S_waits 8 = .ok (.getfield 27, 3) := by decide +kernel
theorem d_S_waits_11 : decode c_S_waits 11 = .ok (.iload_n 1, 1) := by decide +kernel
theorem d_S_waits_12 : decode c_S_waits 12 = .ok (.aaload, 1) := by decide +kernel
theorem d_S_waits_13 : decode c_S_waits 13 = .ok (.getfield 87, 3) := by decide +kernel
theorem d_S_waits_16 : decode c_S_waits 16 = .ok (.ifCond .eq 7, 3) := by decide +kernel
theorem d_S_waits_19 : decode c_S_waits 19 = .ok (.iconst 1, 1) := by decide +kernel
theorem d_S_waits_20 : decode c_S_waits 20 = .ok (.goto 4, 3) := by decide +kernel
theorem d_S_waits_23 : decode c_S_waits 23 = .ok (.iconst 0, 1) := by decide +kernel
theorem d_S_waits_24 : decode c_S_waits 24 = .ok (.ireturn, 1) := by decide +kernel
theorem d_S_done_0 : decode c_S_done 0 = .ok (.iload_n 1, 1) := by decide +kernel
theorem d_S_done_1 : decode c_S_done 1 = .ok (.invokestatic 84, 3) := by decide +kernel
theorem d_S_done_4 : decode c_S_done 4 = .ok (.ifCond .eq 15, 3) := by decide +kernel
theorem d_S_done_7 : decode c_S_done 7 = .ok (.aload_n 0, 1) := by decide +kernel
theorem d_S_done_8 : decode c_S_done 8 = .ok (.getfield 27, 3) := by decide +kernel
theorem d_S_done_11 : decode c_S_done 11 = .ok (.iload_n 1, 1) := by decide +kernel
theorem d_S_done_12 : decode c_S_done 12 = .ok (.aaload, 1) := by decide +kernel
theorem d_S_done_13 : decode c_S_done 13 = .ok (.getfield 91, 3) := by decide +kernel
theorem d_S_done_16 : decode c_S_done 16 = .ok (.goto 4, 3) := by decide +kernel
theorem d_S_done_19 : decode c_S_done 19 = .ok (.iconst (-1), 1) := by decide +kernel
theorem d_S_done_20 : decode c_S_done 20 = .ok (.ireturn, 1) := by decide +kernel
theorem d_S_result_0 : decode c_S_result 0 = .ok (.iload_n 1, 1) := by decide +kernel
theorem d_S_result_1 : decode c_S_result 1 = .ok (.invokestatic 84, 3) := by decide +kernel
theorem d_S_result_4 : decode c_S_result 4 = .ok (.ifCond .eq 15, 3) := by decide +kernel
theorem d_S_result_7 : decode c_S_result 7 = .ok (.aload_n 0, 1) := by decide +kernel
theorem d_S_result_8 : decode c_S_result 8 = .ok (.getfield 27, 3) := by decide +kernel
theorem d_S_result_11 : decode c_S_result 11 = .ok (.iload_n 1, 1) := by decide +kernel
theorem d_S_result_12 : decode c_S_result 12 = .ok (.aaload, 1) := by decide +kernel
theorem d_S_result_13 : decode c_S_result 13 = .ok (.getfield 94, 3) := by decide +kernel
theorem d_S_result_16 : decode c_S_result 16 = .ok (.goto 4, 3) := by decide +kernel
theorem d_S_result_19 : decode c_S_result 19 = .ok (.iconst 0, 1) := by decide +kernel
theorem d_S_result_20 : decode c_S_result 20 = .ok (.ireturn, 1) := by decide +kernel
theorem d_S_tally_0 : decode c_S_tally 0 = .ok (.iload_n 1, 1) := by decide +kernel
theorem d_S_tally_1 : decode c_S_tally 1 = .ok (.iload_n 2, 1) := by decide +kernel
theorem d_S_tally_2 : decode c_S_tally 2 = .ok (.invokestatic 34, 3) := by decide +kernel
theorem d_S_tally_5 : decode c_S_tally 5 = .ok (.ifCond .eq 17, 3) := by decide +kernel
theorem d_S_tally_8 : decode c_S_tally 8 = .ok (.aload_n 0, 1) := by decide +kernel
theorem d_S_tally_9 : decode c_S_tally 9 = .ok (.getfield 10, 3) := by decide +kernel
theorem d_S_tally_12 : decode c_S_tally 12 = .ok (.getfield 97, 3) := by decide +kernel
theorem d_S_tally_15 : decode c_S_tally 15 = .ok (.iload_n 1, 1) := by decide +kernel
theorem d_S_tally_16 : decode c_S_tally 16 = .ok (.aaload, 1) := by decide +kernel
theorem d_S_tally_17 : decode c_S_tally 17 = .ok (.iload_n 2, 1) := by decide +kernel
theorem d_S_tally_18 : decode c_S_tally 18 = .ok (.iaload, 1) := by decide +kernel
theorem d_S_tally_19 : decode c_S_tally 19 = .ok (.goto 4, 3) := by decide +kernel
theorem d_S_tally_22 : decode c_S_tally 22 = .ok (.iconst (-1), 1) := by decide +kernel
theorem d_S_tally_23 : decode c_S_tally 23 = .ok (.ireturn, 1) := by decide +kernel
theorem d_S_run_0 : decode c_S_run 0 = .ok (.iload_n 1, 1) := by decide +kernel
theorem d_S_run_1 : decode c_S_run 1 = .ok (.iconst 1, 1) := by decide +kernel
theorem d_S_run_2 : decode c_S_run 2 = .ok (.if_icmp .lt 9, 3) := by decide +kernel
theorem d_S_run_5 : decode c_S_run 5 = .ok (.iload_n 1, 1) := by decide +kernel
theorem d_S_run_6 : decode c_S_run 6 = .ok (.bipush 64, 2) := by decide +kernel
theorem d_S_run_8 : decode c_S_run 8 = .ok (.if_icmp .le 5, 3) := by decide +kernel
theorem d_S_run_11 : decode c_S_run 11 = .ok (.iconst 0, 1) := by decide +kernel
theorem d_S_run_12 : decode c_S_run 12 = .ok (.ireturn, 1) := by decide +kernel
theorem d_S_run_13 : decode c_S_run 13 = .ok (.iconst 0, 1) := by decide +kernel
theorem d_S_run_14 : decode c_S_run 14 = .ok (.istore_n 2, 1) := by decide +kernel
theorem d_S_run_15 : decode c_S_run 15 = .ok (.iload_n 2, 1) := by decide +kernel
theorem d_S_run_16 : decode c_S_run 16 = .ok (.iload_n 1, 1) := by decide +kernel
theorem d_S_run_17 : decode c_S_run 17 = .ok (.if_icmp .ge 32, 3) := by decide +kernel
theorem d_S_run_20 : decode c_S_run 20 = .ok (.aload_n 0, 1) := by decide +kernel
theorem d_S_run_21 : decode c_S_run 21 = .ok (.invokevirtual 101, 3) := by decide +kernel
theorem d_S_run_24 : decode c_S_run 24 = .ok (.istore_n 3, 1) := by decide +kernel
theorem d_S_run_25 : decode c_S_run 25 = .ok (.aload_n 0, 1) := by decide +kernel
theorem d_S_run_26 : decode c_S_run 26 = .ok (.getfield 10, 3) := by decide +kernel
theorem d_S_run_29 : decode c_S_run 29 = .ok (.iload_n 3, 1) := by decide +kernel
theorem d_S_run_30 : decode c_S_run 30 = .ok (.invokevirtual 46, 3) := by decide +kernel
theorem d_S_run_33 : decode c_S_run 33 = .ok (.ifCond .ne 5, 3) := by decide +kernel
theorem d_S_run_36 : decode c_S_run 36 = .ok (.iload_n 2, 1) := by decide +kernel
theorem d_S_run_37 : decode c_S_run 37 = .ok (.ireturn, 1) := by decide +kernel
theorem d_S_run_38 : decode c_S_run 38 = .ok (.aload_n 0, 1) := by decide +kernel
theorem d_S_run_39 : decode c_S_run 39 = .ok (.iload_n 3, 1) := by decide +kernel
theorem d_S_run_40 : decode c_S_run 40 = .ok (.invokevirtual 53, 3) := by decide +kernel
theorem d_S_run_43 : decode c_S_run 43 = .ok (.iinc 2 1, 3) := by decide +kernel
theorem d_S_run_46 : decode c_S_run 46 = .ok (.goto (-31), 3) := by decide +kernel
theorem d_S_run_49 : decode c_S_run 49 = .ok (.iload_n 1, 1) := by decide +kernel
theorem d_S_run_50 : decode c_S_run 50 = .ok (.ireturn, 1) := by decide +kernel
theorem d_S_isCore_0 : decode c_S_isCore 0 = .ok (.iload_n 0, 1) := by decide +kernel
theorem d_S_isCore_1 : decode c_S_isCore 1 = .ok (.ifCond .lt 12, 3) := by decide +kernel
theorem d_S_isCore_4 : decode c_S_isCore 4 = .ok (.iload_n 0, 1) := by decide +kernel
theorem d_S_isCore_5 : decode c_S_isCore 5 = .ok (.iconst 4, 1) := by decide +kernel
theorem d_S_isCore_6 : decode c_S_isCore 6 = .ok (.if_icmp .ge 7, 3) := by decide +kernel
theorem d_S_isCore_9 : decode c_S_isCore 9 = .ok (.iconst 1, 1) := by decide +kernel
theorem d_S_isCore_10 : decode c_S_isCore 10 = .ok (.goto 4, 3) := by decide +kernel
theorem d_S_isCore_13 : decode c_S_isCore 13 = .ok (.iconst 0, 1) := by decide +kernel
theorem d_S_isCore_14 : decode c_S_isCore 14 = .ok (.ireturn, 1) := by decide +kernel
theorem d_S_isLine_0 : decode c_S_isLine 0 = .ok (.iload_n 0, 1) := by decide +kernel
theorem d_S_isLine_1 : decode c_S_isLine 1 = .ok (.ifCond .lt 12, 3) := by decide +kernel
theorem d_S_isLine_4 : decode c_S_isLine 4 = .ok (.iload_n 0, 1) := by decide +kernel
theorem d_S_isLine_5 : decode c_S_isLine 5 = .ok (.iconst 4, 1) := by decide +kernel
theorem d_S_isLine_6 : decode c_S_isLine 6 = .ok (.if_icmp .ge 7, 3) := by decide +kernel
theorem d_S_isLine_9 : decode c_S_isLine 9 = .ok (.iconst 1, 1) := by decide +kernel
theorem d_S_isLine_10 : decode c_S_isLine 10 = .ok (.goto 4, 3) := by decide +kernel
theorem d_S_isLine_13 : decode c_S_isLine 13 = .ok (.iconst 0, 1) := by decide +kernel
theorem d_S_isLine_14 : decode c_S_isLine 14 = .ok (.ireturn, 1) := by decide +kernel
theorem d_S_isCopy_0 : decode c_S_isCopy 0 = .ok (.iload_n 0, 1) := by decide +kernel
theorem d_S_isCopy_1 : decode c_S_isCopy 1 = .ok (.invokestatic 84, 3) := by decide +kernel
theorem d_S_isCopy_4 : decode c_S_isCopy 4 = .ok (.ifCond .eq 14, 3) := by decide +kernel
theorem d_S_isCopy_7 : decode c_S_isCopy 7 = .ok (.iload_n 1, 1) := by decide +kernel
theorem d_S_isCopy_8 : decode c_S_isCopy 8 = .ok (.invokestatic 75, 3) := by decide +kernel
theorem d_S_isCopy_11 : decode c_S_isCopy 11 = .ok (.ifCond .eq 7, 3) := by decide +kernel
theorem d_S_isCopy_14 : decode c_S_isCopy 14 = .ok (.iconst 1, 1) := by decide +kernel
theorem d_S_isCopy_15 : decode c_S_isCopy 15 = .ok (.goto 4, 3) := by decide +kernel
theorem d_S_isCopy_18 : decode c_S_isCopy 18 = .ok (.iconst 0, 1) := by decide +kernel
theorem d_S_isCopy_19 : decode c_S_isCopy 19 = .ok (.ireturn, 1) := by decide +kernel
theorem d_S_oldestToTake_0 : decode c_S_oldestToTake 0 = .ok (.iconst 0, 1) := by decide +kernel
theorem d_S_oldestToTake_1 : decode c_S_oldestToTake 1 = .ok (.istore_n 1, 1) := by decide +kernel
theorem d_S_oldestToTake_2 : decode c_S_oldestToTake 2 = .ok (.iload_n 1, 1) := by decide +kernel
theorem d_S_oldestToTake_3 : decode c_S_oldestToTake 3 = .ok (.aload_n 0, 1) := by decide +kernel
theorem d_S_oldestToTake_4 : decode c_S_oldestToTake 4 = .ok (.getfield 10, 3) := by decide +kernel
theorem d_S_oldestToTake_7 : decode c_S_oldestToTake 7 = .ok (.getfield 57, 3) := by decide +kernel
theorem d_S_oldestToTake_10 : decode c_S_oldestToTake 10 = .ok (.if_icmp .ge 20, 3) := by decide +kernel
theorem d_S_oldestToTake_13 : decode c_S_oldestToTake 13 = .ok (.aload_n 0, 1) := by decide +kernel
theorem d_S_oldestToTake_14 : decode c_S_oldestToTake 14 = .ok (.iload_n 1, 1) := by decide +kernel
theorem d_S_oldestToTake_15 : decode c_S_oldestToTake 15 = .ok (.invokevirtual 50, 3) := by decide +kernel
theorem d_S_oldestToTake_18 : decode c_S_oldestToTake 18 = .ok (.iconst 2, 1) := by decide +kernel
theorem d_S_oldestToTake_19 : decode c_S_oldestToTake 19 = .ok (.if_icmp .ne 5, 3) := by decide +kernel
theorem d_S_oldestToTake_22 : decode c_S_oldestToTake 22 = .ok (.iload_n 1, 1) := by decide +kernel
theorem d_S_oldestToTake_23 : decode c_S_oldestToTake 23 = .ok (.ireturn, 1) := by decide +kernel
theorem d_S_oldestToTake_24 : decode c_S_oldestToTake 24 = .ok (.iinc 1 1, 3) := by decide +kernel
theorem d_S_oldestToTake_27 : decode c_S_oldestToTake 27 = .ok (.goto (-25), 3) := by decide +kernel
theorem d_S_oldestToTake_30 : decode c_S_oldestToTake 30 = .ok (.aload_n 0, 1) := by decide +kernel
theorem d_S_oldestToTake_31 : decode c_S_oldestToTake 31 = .ok (.getfield 10, 3) := by decide +kernel
theorem d_S_oldestToTake_34 : decode c_S_oldestToTake 34 = .ok (.getfield 57, 3) := by decide +kernel
theorem d_S_oldestToTake_37 : decode c_S_oldestToTake 37 = .ok (.ireturn, 1) := by decide +kernel
theorem d_S_fateOf_0 : decode c_S_fateOf 0 = .ok (.aload_n 0, 1) := by decide +kernel
theorem d_S_fateOf_1 : decode c_S_fateOf 1 = .ok (.getfield 10, 3) := by decide +kernel
theorem d_S_fateOf_4 : decode c_S_fateOf 4 = .ok (.iload_n 1, 1) := by decide +kernel
theorem d_S_fateOf_5 : decode c_S_fateOf 5 = .ok (.invokevirtual 105, 3) := by decide +kernel
theorem d_S_fateOf_8 : decode c_S_fateOf 8 = .ok (.ifCond .eq 5, 3) := by decide +kernel
theorem d_S_fateOf_11 : decode c_S_fateOf 11 = .ok (.iconst 0, 1) := by decide +kernel
theorem d_S_fateOf_12 : decode c_S_fateOf 12 = .ok (.ireturn, 1) := by decide +kernel
theorem d_S_fateOf_13 : decode c_S_fateOf 13 = .ok (.aload_n 0, 1) := by decide +kernel
theorem d_S_fateOf_14 : decode c_S_fateOf 14 = .ok (.iload_n 1, 1) := by decide +kernel
theorem d_S_fateOf_15 : decode c_S_fateOf 15 = .ok (.invokevirtual 108, 3) := by decide +kernel
theorem d_S_fateOf_18 : decode c_S_fateOf 18 = .ok (.ifCond .eq 7, 3) := by decide +kernel
theorem d_S_fateOf_21 : decode c_S_fateOf 21 = .ok (.iconst 1, 1) := by decide +kernel
theorem d_S_fateOf_22 : decode c_S_fateOf 22 = .ok (.goto 4, 3) := by decide +kernel
theorem d_S_fateOf_25 : decode c_S_fateOf 25 = .ok (.iconst 2, 1) := by decide +kernel
theorem d_S_fateOf_26 : decode c_S_fateOf 26 = .ok (.ireturn, 1) := by decide +kernel
theorem d_S_isStalled_0 : decode c_S_isStalled 0 = .ok (.aload_n 0, 1) := by decide +kernel
theorem d_S_isStalled_1 : decode c_S_isStalled 1 = .ok (.getfield 10, 3) := by decide +kernel
theorem d_S_isStalled_4 : decode c_S_isStalled 4 = .ok (.iload_n 1, 1) := by decide +kernel
theorem d_S_isStalled_5 : decode c_S_isStalled 5 = .ok (.iconst 3, 1) := by decide +kernel
theorem d_S_isStalled_6 : decode c_S_isStalled 6 = .ok (.invokevirtual 61, 3) := by decide +kernel
theorem d_S_isStalled_9 : decode c_S_isStalled 9 = .ok (.istore_n 2, 1) := by decide +kernel
theorem d_S_isStalled_10 : decode c_S_isStalled 10 = .ok (.aload_n 0, 1) := by decide +kernel
theorem d_S_isStalled_11 : decode c_S_isStalled 11 = .ok (.getfield 10, 3) := by decide +kernel
theorem d_S_isStalled_14 : decode c_S_isStalled 14 = .ok (.iload_n 1, 1) := by decide +kernel
theorem d_S_isStalled_15 : decode c_S_isStalled 15 = .ok (.iconst 0, 1) := by decide +kernel
theorem d_S_isStalled_16 : decode c_S_isStalled 16 = .ok (.invokevirtual 61, 3) := by decide +kernel
theorem d_S_isStalled_19 : decode c_S_isStalled 19 = .ok (.istore_n 3, 1) := by decide +kernel
theorem d_S_isStalled_20 : decode c_S_isStalled 20 = .ok (.aload_n 0, 1) := by decide +kernel
theorem d_S_isStalled_21 : decode c_S_isStalled 21 = .ok (.getfield 10, 3) := by decide +kernel
theorem d_S_isStalled_24 : decode c_S_isStalled 24 = .ok (.iload_n 1, 1) := by decide +kernel
theorem d_S_isStalled_25 : decode c_S_isStalled 25 = .ok (.iconst 1, 1) := by decide +kernel
theorem d_S_isStalled_26 : decode c_S_isStalled 26 = .ok (.invokevirtual 61, 3) := by decide +kernel
theorem d_S_isStalled_29 : decode c_S_isStalled 29 = .ok (.istore 4, 2) := by decide +kernel
theorem d_S_isStalled_31 : decode c_S_isStalled 31 = .ok (.iload_n 2, 1) := by decide +kernel
theorem d_S_isStalled_32 : decode c_S_isStalled 32 = .ok (.iconst 4, 1) := by decide +kernel
theorem d_S_isStalled_33 : decode c_S_isStalled 33 = .ok (.if_icmp .ne 16, 3) := by decide +kernel
theorem d_S_isStalled_36 : decode c_S_isStalled 36 = .ok (.aload_n 0, 1) := by decide +kernel
theorem d_S_isStalled_37 : decode c_S_isStalled 37 = .ok (.getfield 21, 3) := by decide +kernel
theorem d_S_isStalled_40 : decode c_S_isStalled 40 = .ok (.iload_n 3, 1) := by decide +kernel
theorem d_S_isStalled_41 : decode c_S_isStalled 41 = .ok (.iload 4, 2) := by decide +kernel
theorem d_S_isStalled_43 : decode c_S_isStalled 43 = .ok (.invokevirtual 111, 3) := by decide +kernel
theorem d_S_isStalled_46 : decode c_S_isStalled 46 = .ok (.goto 15, 3) := by decide +kernel
theorem d_S_isStalled_49 : decode c_S_isStalled 49 = .ok (.aload_n 0, 1) := by decide +kernel
theorem d_S_isStalled_50 : decode c_S_isStalled 50 = .ok (.getfield 27, 3) := by decide +kernel
theorem d_S_isStalled_53 : decode c_S_isStalled 53 = .ok (.iload_n 2, 1) := by decide +kernel
theorem d_S_isStalled_54 : decode c_S_isStalled 54 = .ok (.aaload, 1) := by decide +kernel
theorem d_S_isStalled_55 : decode c_S_isStalled 55 = .ok (.iload_n 3, 1) := by decide +kernel
theorem d_S_isStalled_56 : decode c_S_isStalled 56 = .ok (.iload 4, 2) := by decide +kernel
theorem d_S_isStalled_58 : decode c_S_isStalled 58 = .ok (.invokevirtual 114, 3) := by decide +kernel
theorem d_S_isStalled_61 : decode c_S_isStalled 61 = .ok (.ireturn, 1) := by decide +kernel
theorem d_S_handOver_0 : decode c_S_handOver 0 = .ok (.aload_n 0, 1) := by decide +kernel
theorem d_S_handOver_1 : decode c_S_handOver 1 = .ok (.getfield 10, 3) := by decide +kernel
theorem d_S_handOver_4 : decode c_S_handOver 4 = .ok (.iload_n 1, 1) := by decide +kernel
theorem d_S_handOver_5 : decode c_S_handOver 5 = .ok (.iconst 3, 1) := by decide +kernel
theorem d_S_handOver_6 : decode c_S_handOver 6 = .ok (.invokevirtual 61, 3) := by decide +kernel
theorem d_S_handOver_9 : decode c_S_handOver 9 = .ok (.istore_n 2, 1) := by decide +kernel
theorem d_S_handOver_10 : decode c_S_handOver 10 = .ok (.iload_n 2, 1) := by decide +kernel
theorem d_S_handOver_11 : decode c_S_handOver 11 = .ok (.iconst 4, 1) := by decide +kernel
theorem d_S_handOver_12 : decode c_S_handOver 12 = .ok (.if_icmp .ne 14, 3) := by decide +kernel
theorem d_S_handOver_15 : decode c_S_handOver 15 = .ok (.aload_n 0, 1) := by decide +kernel
theorem d_S_handOver_16 : decode c_S_handOver 16 = .ok (.getfield 21, 3) := by decide +kernel
theorem d_S_handOver_19 : decode c_S_handOver 19 = .ok (.iload_n 1, 1) := by decide +kernel
theorem d_S_handOver_20 : decode c_S_handOver 20 = .ok (.invokevirtual 115, 3) := by decide +kernel
theorem d_S_handOver_23 : decode c_S_handOver 23 = .ok (.goto 13, 3) := by decide +kernel
theorem d_S_handOver_26 : decode c_S_handOver 26 = .ok (.aload_n 0, 1) := by decide +kernel
theorem d_S_handOver_27 : decode c_S_handOver 27 = .ok (.getfield 27, 3) := by decide +kernel
theorem d_S_handOver_30 : decode c_S_handOver 30 = .ok (.iload_n 2, 1) := by decide +kernel
theorem d_S_handOver_31 : decode c_S_handOver 31 = .ok (.aaload, 1) := by decide +kernel
theorem d_S_handOver_32 : decode c_S_handOver 32 = .ok (.iload_n 1, 1) := by decide +kernel
theorem d_S_handOver_33 : decode c_S_handOver 33 = .ok (.invokevirtual 118, 3) := by decide +kernel
theorem d_S_handOver_36 : decode c_S_handOver 36 = .ok (.aload_n 0, 1) := by decide +kernel
theorem d_S_handOver_37 : decode c_S_handOver 37 = .ok (.getfield 10, 3) := by decide +kernel
theorem d_S_handOver_40 : decode c_S_handOver 40 = .ok (.iload_n 1, 1) := by decide +kernel
theorem d_S_handOver_41 : decode c_S_handOver 41 = .ok (.invokevirtual 119, 3) := by decide +kernel
theorem d_S_handOver_44 : decode c_S_handOver 44 = .ok (.return_, 1) := by decide +kernel
theorem d_A_init_0 : decode c_A_init 0 = .ok (.aload_n 0, 1) := by decide +kernel
theorem d_A_init_1 : decode c_A_init 1 = .ok (.invokespecial 3, 3) := by decide +kernel
theorem d_A_init_4 : decode c_A_init 4 = .ok (.aload_n 0, 1) := by decide +kernel
theorem d_A_init_5 : decode c_A_init 5 = .ok (.bipush 7, 2) := by decide +kernel
theorem d_A_init_7 : decode c_A_init 7 = .ok (.bipush 64, 2) := by decide +kernel
theorem d_A_init_9 : decode c_A_init 9 = .ok (.multianewarray 11 2, 4) := by decide +kernel
theorem d_A_init_13 : decode c_A_init 13 = .ok (.putfield 13, 3) := by decide +kernel
theorem d_A_init_16 : decode c_A_init 16 = .ok (.aload_n 0, 1) := by decide +kernel
theorem d_A_init_17 : decode c_A_init 17 = .ok (.iconst 4, 1) := by decide +kernel
theorem d_A_init_18 : decode c_A_init 18 = .ok (.iconst 4, 1) := by decide +kernel
theorem d_A_init_19 : decode c_A_init 19 = .ok (.multianewarray 11 2, 4) := by decide +kernel
theorem d_A_init_23 : decode c_A_init 23 = .ok (.putfield 16, 3) := by decide +kernel
theorem d_A_init_26 : decode c_A_init 26 = .ok (.aload_n 0, 1) := by decide +kernel
theorem d_A_init_27 : decode c_A_init 27 = .ok (.iconst 0, 1) := by decide +kernel
theorem d_A_init_28 : decode c_A_init 28 = .ok (.putfield 19, 3) := by decide +kernel
theorem d_A_init_31 : decode c_A_init 31 = .ok (.return_, 1) := by decide +kernel
theorem d_A_has_0 : decode c_A_has 0 = .ok (.iload_n 1, 1) := by decide +kernel
theorem d_A_has_1 : decode c_A_has 1 = .ok (.ifCond .lt 15, 3) := by decide +kernel
theorem d_A_has_4 : decode c_A_has 4 = .ok (.iload_n 1, 1) := by decide +kernel
theorem d_A_has_5 : decode c_A_has 5 = .ok (.aload_n 0, 1) := by decide +kernel
theorem d_A_has_6 : decode c_A_has 6 = .ok (.getfield 19, 3) := by decide +kernel
theorem d_A_has_9 : decode c_A_has 9 = .ok (.if_icmp .ge 7, 3) := by decide +kernel
theorem d_A_has_12 : decode c_A_has 12 = .ok (.iconst 1, 1) := by decide +kernel
theorem d_A_has_13 : decode c_A_has 13 = .ok (.goto 4, 3) := by decide +kernel
theorem d_A_has_16 : decode c_A_has 16 = .ok (.iconst 0, 1) := by decide +kernel
theorem d_A_has_17 : decode c_A_has 17 = .ok (.ireturn, 1) := by decide +kernel
theorem d_A_part_0 : decode c_A_part 0 = .ok (.aload_n 0, 1) := by decide +kernel
theorem d_A_part_1 : decode c_A_part 1 = .ok (.getfield 13, 3) := by decide +kernel
theorem d_A_part_4 : decode c_A_part 4 = .ok (.iload_n 2, 1) := by decide +kernel
theorem d_A_part_5 : decode c_A_part 5 = .ok (.aaload, 1) := by decide +kernel
theorem d_A_part_6 : decode c_A_part 6 = .ok (.iload_n 1, 1) := by decide +kernel
theorem d_A_part_7 : decode c_A_part 7 = .ok (.iaload, 1) := by decide +kernel
theorem d_A_part_8 : decode c_A_part 8 = .ok (.ireturn, 1) := by decide +kernel
theorem d_A_send_0 : decode c_A_send 0 = .ok (.aload_n 0, 1) := by decide +kernel
theorem d_A_send_1 : decode c_A_send 1 = .ok (.getfield 19, 3) := by decide +kernel
theorem d_A_send_4 : decode c_A_send 4 = .ok (.bipush 64, 2) := by decide +kernel
theorem d_A_send_6 : decode c_A_send 6 = .ok (.if_icmp .lt 4, 3) := by decide +kernel
theorem d_A_send_9 : decode c_A_send 9 = .ok (.return_, 1) := by decide +kernel
theorem d_A_send_10 : decode c_A_send 10 = .ok (.aload_n 0, 1) := by decide +kernel
theorem d_A_send_11 : decode c_A_send 11 = .ok (.getfield 13, 3) := by decide +kernel
theorem d_A_send_14 : decode c_A_send 14 = .ok (.iconst 0, 1) := by decide +kernel
theorem d_A_send_15 : decode c_A_send 15 = .ok (.aaload, 1) := by decide +kernel
theorem d_A_send_16 : decode c_A_send 16 = .ok (.aload_n 0, 1) := by decide +kernel
theorem d_A_send_17 : decode c_A_send 17 = .ok (.getfield 19, 3) := by decide +kernel
theorem d_A_send_20 : decode c_A_send 20 = .ok (.iload_n 1, 1) := by decide +kernel
theorem d_A_send_21 : decode c_A_send 21 = .ok (.iastore, 1) := by decide +kernel
theorem d_A_send_22 : decode c_A_send 22 = .ok (.aload_n 0, 1) := by decide +kernel
theorem d_A_send_23 : decode c_A_send 23 = .ok (.getfield 13, 3) := by decide +kernel
theorem d_A_send_26 : decode c_A_send 26 = .ok (.iconst 1, 1) := by decide +kernel
theorem d_A_send_27 : decode c_A_send 27 = .ok (.aaload, 1) := by decide +kernel
theorem d_A_send_28 : decode c_A_send 28 = .ok (.aload_n 0, 1) := by decide +kernel
theorem d_A_send_29 : decode c_A_send 29 = .ok (.getfield 19, 3) := by decide +kernel
theorem d_A_send_32 : decode c_A_send 32 = .ok (.iload_n 2, 1) := by decide +kernel
theorem d_A_send_33 : decode c_A_send 33 = .ok (.iastore, 1) := by decide +kernel
theorem d_A_send_34 : decode c_A_send 34 = .ok (.aload_n 0, 1) := by decide +kernel
theorem d_A_send_35 : decode c_A_send 35 = .ok (.getfield 13, 3) := by decide +kernel
theorem d_A_send_38 : decode c_A_send 38 = .ok (.iconst 2, 1) := by decide +kernel
theorem d_A_send_39 : decode c_A_send 39 = .ok (.aaload, 1) := by decide +kernel
theorem d_A_send_40 : decode c_A_send 40 = .ok (.aload_n 0, 1) := by decide +kernel
theorem d_A_send_41 : decode c_A_send 41 = .ok (.getfield 19, 3) := by decide +kernel
theorem d_A_send_44 : decode c_A_send 44 = .ok (.iload_n 3, 1) := by decide +kernel
theorem d_A_send_45 : decode c_A_send 45 = .ok (.iastore, 1) := by decide +kernel
theorem d_A_send_46 : decode c_A_send 46 = .ok (.aload_n 0, 1) := by decide +kernel
theorem d_A_send_47 : decode c_A_send 47 = .ok (.getfield 13, 3) := by decide +kernel
theorem d_A_send_50 : decode c_A_send 50 = .ok (.iconst 3, 1) := by decide +kernel
theorem d_A_send_51 : decode c_A_send 51 = .ok (.aaload, 1) := by decide +kernel
theorem d_A_send_52 : decode c_A_send 52 = .ok (.aload_n 0, 1) := by decide +kernel
theorem d_A_send_53 : decode c_A_send 53 = .ok (.getfield 19, 3) := by decide +kernel
theorem d_A_send_56 : decode c_A_send 56 = .ok (.iload 4, 2) := by decide +kernel
theorem d_A_send_58 : decode c_A_send 58 = .ok (.iastore, 1) := by decide +kernel
theorem d_A_send_59 : decode c_A_send 59 = .ok (.aload_n 0, 1) := by decide +kernel
theorem d_A_send_60 : decode c_A_send 60 = .ok (.getfield 13, 3) := by decide +kernel
theorem d_A_send_63 : decode c_A_send 63 = .ok (.iconst 4, 1) := by decide +kernel
theorem d_A_send_64 : decode c_A_send 64 = .ok (.aaload, 1) := by decide +kernel
theorem d_A_send_65 : decode c_A_send 65 = .ok (.aload_n 0, 1) := by decide +kernel
theorem d_A_send_66 : decode c_A_send 66 = .ok (.getfield 19, 3) := by decide +kernel
theorem d_A_send_69 : decode c_A_send 69 = .ok (.iload 5, 2) := by decide +kernel
theorem d_A_send_71 : decode c_A_send 71 = .ok (.iastore, 1) := by decide +kernel
theorem d_A_send_72 : decode c_A_send 72 = .ok (.aload_n 0, 1) := by decide +kernel
theorem d_A_send_73 : decode c_A_send 73 = .ok (.getfield 13, 3) := by decide +kernel
theorem d_A_send_76 : decode c_A_send 76 = .ok (.iconst 5, 1) := by decide +kernel
theorem d_A_send_77 : decode c_A_send 77 = .ok (.aaload, 1) := by decide +kernel
theorem d_A_send_78 : decode c_A_send 78 = .ok (.aload_n 0, 1) := by decide +kernel
theorem d_A_send_79 : decode c_A_send 79 = .ok (.getfield 19, 3) := by decide +kernel
theorem d_A_send_82 : decode c_A_send 82 = .ok (.iload 6, 2) := by decide +kernel
theorem d_A_send_84 : decode c_A_send 84 = .ok (.iastore, 1) := by decide +kernel
theorem d_A_send_85 : decode c_A_send 85 = .ok (.aload_n 0, 1) := by decide +kernel
theorem d_A_send_86 : decode c_A_send 86 = .ok (.getfield 13, 3) := by decide +kernel
theorem d_A_send_89 : decode c_A_send 89 = .ok (.bipush 6, 2) := by decide +kernel
theorem d_A_send_91 : decode c_A_send 91 = .ok (.aaload, 1) := by decide +kernel
theorem d_A_send_92 : decode c_A_send 92 = .ok (.aload_n 0, 1) := by decide +kernel
theorem d_A_send_93 : decode c_A_send 93 = .ok (.getfield 19, 3) := by decide +kernel
theorem d_A_send_96 : decode c_A_send 96 = .ok (.iload 7, 2) := by decide +kernel
theorem d_A_send_98 : decode c_A_send 98 = .ok (.iastore, 1) := by decide +kernel
theorem d_A_send_99 : decode c_A_send 99 = .ok (.aload_n 0, 1) := by decide +kernel
theorem d_A_send_100 : decode c_A_send 100 = .ok (.dup, 1) := by decide +kernel
theorem d_A_send_101 : decode c_A_send 101 = .ok (.getfield 19, 3) := by decide +kernel
theorem d_A_send_104 : decode c_A_send 104 = .ok (.iconst 1, 1) := by decide +kernel
theorem d_A_send_105 : decode c_A_send 105 = .ok (.iadd, 1) := by decide +kernel
theorem d_A_send_106 : decode c_A_send 106 = .ok (.putfield 19, 3) := by decide +kernel
theorem d_A_send_109 : decode c_A_send 109 = .ok (.aload_n 0, 1) := by decide +kernel
theorem d_A_send_110 : decode c_A_send 110 = .ok (.getfield 16, 3) := by decide +kernel
theorem d_A_send_113 : decode c_A_send 113 = .ok (.iload 5, 2) := by decide +kernel
theorem d_A_send_115 : decode c_A_send 115 = .ok (.aaload, 1) := by decide +kernel
theorem d_A_send_116 : decode c_A_send 116 = .ok (.iload_n 2, 1) := by decide +kernel
theorem d_A_send_117 : decode c_A_send 117 = .ok (.iload_n 1, 1) := by decide +kernel
theorem d_A_send_118 : decode c_A_send 118 = .ok (.iconst 4, 1) := by decide +kernel
theorem d_A_send_119 : decode c_A_send 119 = .ok (.if_icmp .gt 7, 3) := by decide +kernel
theorem d_A_send_122 : decode c_A_send 122 = .ok (.iconst 1, 1) := by decide +kernel
theorem d_A_send_123 : decode c_A_send 123 = .ok (.goto 14, 3) := by decide +kernel
theorem d_A_send_126 : decode c_A_send 126 = .ok (.aload_n 0, 1) := by decide +kernel
theorem d_A_send_127 : decode c_A_send 127 = .ok (.getfield 16, 3) := by decide +kernel
theorem d_A_send_130 : decode c_A_send 130 = .ok (.iload 5, 2) := by decide +kernel
theorem d_A_send_132 : decode c_A_send 132 = .ok (.aaload, 1) := by decide +kernel
theorem d_A_send_133 : decode c_A_send 133 = .ok (.iload_n 2, 1) := by decide +kernel
theorem d_A_send_134 : decode c_A_send 134 = .ok (.iaload, 1) := by decide +kernel
theorem d_A_send_135 : decode c_A_send 135 = .ok (.iconst 1, 1) := by decide +kernel
theorem d_A_send_136 : decode c_A_send 136 = .ok (.iadd, 1) := by decide +kernel
theorem d_A_send_137 : decode c_A_send 137 = .ok (.iastore, 1) := by decide +kernel
theorem d_A_send_138 : decode c_A_send 138 = .ok (.return_, 1) := by decide +kernel
theorem d_A_remove_0 : decode c_A_remove 0 = .ok (.aload_n 0, 1) := by decide +kernel
theorem d_A_remove_1 : decode c_A_remove 1 = .ok (.dup, 1) := by decide +kernel
theorem d_A_remove_2 : decode c_A_remove 2 = .ok (.getfield 19, 3) := by decide +kernel
theorem d_A_remove_5 : decode c_A_remove 5 = .ok (.iconst 1, 1) := by decide +kernel
theorem d_A_remove_6 : decode c_A_remove 6 = .ok (.isub, 1) := by decide +kernel
theorem d_A_remove_7 : decode c_A_remove 7 = .ok (.putfield 19, 3) := by decide +kernel
theorem d_A_remove_10 : decode c_A_remove 10 = .ok (.iconst 0, 1) := by decide +kernel
theorem d_A_remove_11 : decode c_A_remove 11 = .ok (.istore_n 2, 1) := by decide +kernel
theorem d_A_remove_12 : decode c_A_remove 12 = .ok (.iload_n 2, 1) := by decide +kernel
theorem d_A_remove_13 : decode c_A_remove 13 = .ok (.bipush 7, 2) := by decide +kernel
theorem d_A_remove_15 : decode c_A_remove 15 = .ok (.if_icmp .ge 43, 3) := by decide +kernel
theorem d_A_remove_18 : decode c_A_remove 18 = .ok (.iload_n 1, 1) := by decide +kernel
theorem d_A_remove_19 : decode c_A_remove 19 = .ok (.istore_n 3, 1) := by decide +kernel
theorem d_A_remove_20 : decode c_A_remove 20 = .ok (.iload_n 3, 1) := by decide +kernel
theorem d_A_remove_21 : decode c_A_remove 21 = .ok (.aload_n 0, 1) := by decide +kernel
theorem d_A_remove_22 : decode c_A_remove 22 = .ok (.getfield 19, 3) := by decide +kernel
theorem d_A_remove_25 : decode c_A_remove 25 = .ok (.if_icmp .ge 27, 3) := by decide +kernel
theorem d_A_remove_28 : decode c_A_remove 28 = .ok (.aload_n 0, 1) := by decide +kernel
theorem d_A_remove_29 : decode c_A_remove 29 = .ok (.getfield 13, 3) := by decide +kernel
theorem d_A_remove_32 : decode c_A_remove 32 = .ok (.iload_n 2, 1) := by decide +kernel
theorem d_A_remove_33 : decode c_A_remove 33 = .ok (.aaload, 1) := by decide +kernel
theorem d_A_remove_34 : decode c_A_remove 34 = .ok (.iload_n 3, 1) := by decide +kernel
theorem d_A_remove_35 : decode c_A_remove 35 = .ok (.aload_n 0, 1) := by decide +kernel
theorem d_A_remove_36 : decode c_A_remove 36 = .ok (.getfield 13, 3) := by decide +kernel
theorem d_A_remove_39 : decode c_A_remove 39 = .ok (.iload_n 2, 1) := by decide +kernel
theorem d_A_remove_40 : decode c_A_remove 40 = .ok (.aaload, 1) := by decide +kernel
theorem d_A_remove_41 : decode c_A_remove 41 = .ok (.iload_n 3, 1) := by decide +kernel
theorem d_A_remove_42 : decode c_A_remove 42 = .ok (.iconst 1, 1) := by decide +kernel
theorem d_A_remove_43 : decode c_A_remove 43 = .ok (.iadd, 1) := by decide +kernel
theorem d_A_remove_44 : decode c_A_remove 44 = .ok (.iaload, 1) := by decide +kernel
theorem d_A_remove_45 : decode c_A_remove 45 = .ok (.iastore, 1) := by decide +kernel
theorem d_A_remove_46 : decode c_A_remove 46 = .ok (.iinc 3 1, 3) := by decide +kernel
theorem d_A_remove_49 : decode c_A_remove 49 = .ok (.goto (-29), 3) := by decide +kernel
theorem d_A_remove_52 : decode c_A_remove 52 = .ok (.iinc 2 1, 3) := by decide +kernel
theorem d_A_remove_55 : decode c_A_remove 55 = .ok (.goto (-43), 3) := by decide +kernel
theorem d_A_remove_58 : decode c_A_remove 58 = .ok (.return_, 1) := by decide +kernel
theorem d_A_keepsBack_0 : decode c_A_keepsBack 0 = .ok (.aload_n 0, 1) := by decide +kernel
theorem d_A_keepsBack_1 : decode c_A_keepsBack 1 = .ok (.iload_n 1, 1) := by decide +kernel
theorem d_A_keepsBack_2 : decode c_A_keepsBack 2 = .ok (.invokevirtual 23, 3) := by decide +kernel
theorem d_A_keepsBack_5 : decode c_A_keepsBack 5 = .ok (.ifCond .ne 5, 3) := by decide +kernel
theorem d_A_keepsBack_8 : decode c_A_keepsBack 8 = .ok (.iconst 0, 1) := by decide +kernel
theorem d_A_keepsBack_9 : decode c_A_keepsBack 9 = .ok (.ireturn, 1) := by decide +kernel
theorem d_A_keepsBack_10 : decode c_A_keepsBack 10 = .ok (.iconst 0, 1) := by decide +kernel
theorem d_A_keepsBack_11 : decode c_A_keepsBack 11 = .ok (.istore_n 2, 1) := by decide +kernel
theorem d_A_keepsBack_12 : decode c_A_keepsBack 12 = .ok (.iload_n 2, 1) := by decide +kernel
theorem d_A_keepsBack_13 : decode c_A_keepsBack 13 = .ok (.iload_n 1, 1) := by decide +kernel
theorem d_A_keepsBack_14 : decode c_A_keepsBack 14 = .ok (.if_icmp .ge 57, 3) := by decide +kernel
theorem d_A_keepsBack_17 : decode c_A_keepsBack 17 = .ok (.aload_n 0, 1) := by decide +kernel
theorem d_A_keepsBack_18 : decode c_A_keepsBack 18 = .ok (.iload_n 2, 1) := by decide +kernel
theorem d_A_keepsBack_19 : decode c_A_keepsBack 19 = .ok (.invokevirtual 23, 3) := by decide +kernel
theorem d_A_keepsBack_22 : decode c_A_keepsBack 22 = .ok (.ifCond .eq 43, 3) := by decide +kernel
theorem d_A_keepsBack_25 : decode c_A_keepsBack 25 = .ok (.aload_n 0, 1) := by decide +kernel
theorem d_A_keepsBack_26 : decode c_A_keepsBack 26 = .ok (.getfield 13, 3) := by decide +kernel
theorem d_A_keepsBack_29 : decode c_A_keepsBack 29 = .ok (.iconst 1, 1) := by decide +kernel
theorem d_A_keepsBack_30 : decode c_A_keepsBack 30 = .ok (.aaload, 1) := by decide +kernel
theorem d_A_keepsBack_31 : decode c_A_keepsBack 31 = .ok (.iload_n 2, 1) := by decide +kernel
theorem d_A_keepsBack_32 : decode c_A_keepsBack 32 = .ok (.iaload, 1) := by decide +kernel
theorem d_A_keepsBack_33 : decode c_A_keepsBack 33 = .ok (.aload_n 0, 1) := by decide +kernel
theorem d_A_keepsBack_34 : decode c_A_keepsBack 34 = .ok (.getfield 13, 3) := by decide +kernel
theorem d_A_keepsBack_37 : decode c_A_keepsBack 37 = .ok (.iconst 1, 1) := by decide +kernel
theorem d_A_keepsBack_38 : decode c_A_keepsBack 38 = .ok (.aaload, 1) := by decide +kernel
theorem d_A_keepsBack_39 : decode c_A_keepsBack 39 = .ok (.iload_n 1, 1) := by decide +kernel
theorem d_A_keepsBack_40 : decode c_A_keepsBack 40 = .ok (.iaload, 1) := by decide +kernel
theorem d_A_keepsBack_41 : decode c_A_keepsBack 41 = .ok (.if_icmp .ne 24, 3) := by decide +kernel
theorem d_A_keepsBack_44 : decode c_A_keepsBack 44 = .ok (.aload_n 0, 1) := by decide +kernel
theorem d_A_keepsBack_45 : decode c_A_keepsBack 45 = .ok (.getfield 13, 3) := by decide +kernel
theorem d_A_keepsBack_48 : decode c_A_keepsBack 48 = .ok (.iconst 3, 1) := by decide +kernel
theorem d_A_keepsBack_49 : decode c_A_keepsBack 49 = .ok (.aaload, 1) := by decide +kernel
theorem d_A_keepsBack_50 : decode c_A_keepsBack 50 = .ok (.iload_n 2, 1) := by decide +kernel
theorem d_A_keepsBack_51 : decode c_A_keepsBack 51 = .ok (.iaload, 1) := by decide +kernel
theorem d_A_keepsBack_52 : decode c_A_keepsBack 52 = .ok (.aload_n 0, 1) := by decide +kernel
theorem d_A_keepsBack_53 : decode c_A_keepsBack 53 = .ok (.getfield 13, 3) := by decide +kernel
theorem d_A_keepsBack_56 : decode c_A_keepsBack 56 = .ok (.iconst 3, 1) := by decide +kernel
theorem d_A_keepsBack_57 : decode c_A_keepsBack 57 = .ok (.aaload, 1) := by decide +kernel
theorem d_A_keepsBack_58 : decode c_A_keepsBack 58 = .ok (.iload_n 1, 1) := by decide +kernel
theorem d_A_keepsBack_59 : decode c_A_keepsBack 59 = .ok (.iaload, 1) := by decide +kernel
theorem d_A_keepsBack_60 : decode c_A_keepsBack 60 = .ok (.if_icmp .ne 5, 3) := by decide +kernel
theorem d_A_keepsBack_63 : decode c_A_keepsBack 63 = .ok (.iconst 1, 1) := by decide +kernel
theorem d_A_keepsBack_64 : decode c_A_keepsBack 64 = .ok (.ireturn, 1) := by decide +kernel
theorem d_A_keepsBack_65 : decode c_A_keepsBack 65 = .ok (.iinc 2 1, 3) := by decide +kernel
theorem d_A_keepsBack_68 : decode c_A_keepsBack 68 = .ok (.goto (-56), 3) := by decide +kernel
theorem d_A_keepsBack_71 : decode c_A_keepsBack 71 = .ok (.iconst 0, 1) := by decide +kernel
theorem d_A_keepsBack_72 : decode c_A_keepsBack 72 = .ok (.ireturn, 1) := by decide +kernel
theorem d_A_isOrdered_0 : decode c_A_isOrdered 0 = .ok (.aload_n 0, 1) := by decide +kernel
theorem d_A_isOrdered_1 : decode c_A_isOrdered 1 = .ok (.getfield 13, 3) := by decide +kernel
theorem d_A_isOrdered_4 : decode c_A_isOrdered 4 = .ok (.iconst 0, 1) := by decide +kernel
theorem d_A_isOrdered_5 : decode c_A_isOrdered 5 = .ok (.aaload, 1) := by decide +kernel
theorem d_A_isOrdered_6 : decode c_A_isOrdered 6 = .ok (.iload_n 1, 1) := by decide +kernel
theorem d_A_isOrdered_7 : decode c_A_isOrdered 7 = .ok (.iaload, 1) := by decide +kernel
theorem d_A_isOrdered_8 : decode c_A_isOrdered 8 = .ok (.iconst 5, 1) := by decide +kernel
theorem d_A_isOrdered_9 : decode c_A_isOrdered 9 = .ok (.if_icmp .lt 20, 3) := by decide +kernel
theorem d_A_isOrdered_12 : decode c_A_isOrdered 12 = .ok (.aload_n 0, 1) := by decide +kernel
theorem d_A_isOrdered_13 : decode c_A_isOrdered 13 = .ok (.getfield 13, 3) := by decide +kernel
theorem d_A_isOrdered_16 : decode c_A_isOrdered 16 = .ok (.iconst 0, 1) := by decide +kernel
theorem d_A_isOrdered_17 : decode c_A_isOrdered 17 = .ok (.aaload, 1) := by decide +kernel
theorem d_A_isOrdered_18 : decode c_A_isOrdered 18 = .ok (.iload_n 1, 1) := by decide +kernel
theorem d_A_isOrdered_19 : decode c_A_isOrdered 19 = .ok (.iaload, 1) := by decide +kernel
theorem d_A_isOrdered_20 : decode c_A_isOrdered 20 = .ok (.bipush 8, 2) := by decide +kernel
theorem d_A_isOrdered_22 : decode c_A_isOrdered 22 = .ok (.if_icmp .gt 7, 3) := by decide +kernel
theorem d_A_isOrdered_25 : decode c_A_isOrdered 25 = .ok (.iconst 1, 1) := by decide +kernel
theorem d_A_isOrdered_26 : decode c_A_isOrdered 26 = .ok (.goto 4, 3) := by decide +kernel
theorem d_A_isOrdered_29 : decode c_A_isOrdered 29 = .ok (.iconst 0, 1) := by decide +kernel
theorem d_A_isOrdered_30 : decode c_A_isOrdered 30 = .ok (.ireturn, 1) := by decide +kernel
theorem d_J_bitCount_0 : decode c_J_bitCount 0 = .ok (.iload_n 0, 1) := by decide +kernel
theorem d_J_bitCount_1 : decode c_J_bitCount 1 = .ok (.iload_n 0, 1) := by decide +kernel
theorem d_J_bitCount_2 : decode c_J_bitCount 2 = .ok (.iconst 1, 1) := by decide +kernel
theorem d_J_bitCount_3 : decode c_J_bitCount 3 = .ok (.iushr, 1) := by decide +kernel
theorem d_J_bitCount_4 : decode c_J_bitCount 4 = .ok (.ldc_w 265, 3) := by decide +kernel
theorem d_J_bitCount_7 : decode c_J_bitCount 7 = .ok (.iand, 1) := by decide +kernel
theorem d_J_bitCount_8 : decode c_J_bitCount 8 = .ok (.isub, 1) := by decide +kernel
theorem d_J_bitCount_9 : decode c_J_bitCount 9 = .ok (.istore_n 0, 1) := by decide +kernel
theorem d_J_bitCount_10 : decode c_J_bitCount 10 = .ok (.iload_n 0, 1) := by decide +kernel
theorem d_J_bitCount_11 : decode c_J_bitCount 11 = .ok (.ldc_w 266, 3) := by decide +kernel
theorem d_J_bitCount_14 : decode c_J_bitCount 14 = .ok (.iand, 1) := by decide +kernel
theorem d_J_bitCount_15 : decode c_J_bitCount 15 = .ok (.iload_n 0, 1) := by decide +kernel
theorem d_J_bitCount_16 : decode c_J_bitCount 16 = .ok (.iconst 2, 1) := by decide +kernel
theorem d_J_bitCount_17 : decode c_J_bitCount 17 = .ok (.iushr, 1) := by decide +kernel
theorem d_J_bitCount_18 : decode c_J_bitCount 18 = .ok (.ldc_w 266, 3) := by decide +kernel
theorem d_J_bitCount_21 : decode c_J_bitCount 21 = .ok (.iand, 1) := by decide +kernel
theorem d_J_bitCount_22 : decode c_J_bitCount 22 = .ok (.iadd, 1) := by decide +kernel
theorem d_J_bitCount_23 : decode c_J_bitCount 23 = .ok (.istore_n 0, 1) := by decide +kernel
theorem d_J_bitCount_24 : decode c_J_bitCount 24 = .ok (.iload_n 0, 1) := by decide +kernel
theorem d_J_bitCount_25 : decode c_J_bitCount 25 = .ok (.iload_n 0, 1) := by decide +kernel
theorem d_J_bitCount_26 : decode c_J_bitCount 26 = .ok (.iconst 4, 1) := by decide +kernel
theorem d_J_bitCount_27 : decode c_J_bitCount 27 = .ok (.iushr, 1) := by decide +kernel
theorem d_J_bitCount_28 : decode c_J_bitCount 28 = .ok (.iadd, 1) := by decide +kernel
theorem d_J_bitCount_29 : decode c_J_bitCount 29 = .ok (.ldc_w 267, 3) := by decide +kernel
theorem d_J_bitCount_32 : decode c_J_bitCount 32 = .ok (.iand, 1) := by decide +kernel
theorem d_J_bitCount_33 : decode c_J_bitCount 33 = .ok (.istore_n 0, 1) := by decide +kernel
theorem d_J_bitCount_34 : decode c_J_bitCount 34 = .ok (.iload_n 0, 1) := by decide +kernel
theorem d_J_bitCount_35 : decode c_J_bitCount 35 = .ok (.iload_n 0, 1) := by decide +kernel
theorem d_J_bitCount_36 : decode c_J_bitCount 36 = .ok (.bipush 8, 2) := by decide +kernel
theorem d_J_bitCount_38 : decode c_J_bitCount 38 = .ok (.iushr, 1) := by decide +kernel
theorem d_J_bitCount_39 : decode c_J_bitCount 39 = .ok (.iadd, 1) := by decide +kernel
theorem d_J_bitCount_40 : decode c_J_bitCount 40 = .ok (.istore_n 0, 1) := by decide +kernel
theorem d_J_bitCount_41 : decode c_J_bitCount 41 = .ok (.iload_n 0, 1) := by decide +kernel
theorem d_J_bitCount_42 : decode c_J_bitCount 42 = .ok (.iload_n 0, 1) := by decide +kernel
theorem d_J_bitCount_43 : decode c_J_bitCount 43 = .ok (.bipush 16, 2) := by decide +kernel
theorem d_J_bitCount_45 : decode c_J_bitCount 45 = .ok (.iushr, 1) := by decide +kernel
theorem d_J_bitCount_46 : decode c_J_bitCount 46 = .ok (.iadd, 1) := by decide +kernel
theorem d_J_bitCount_47 : decode c_J_bitCount 47 = .ok (.istore_n 0, 1) := by decide +kernel
theorem d_J_bitCount_48 : decode c_J_bitCount 48 = .ok (.iload_n 0, 1) := by decide +kernel
theorem d_J_bitCount_49 : decode c_J_bitCount 49 = .ok (.bipush 63, 2) := by decide +kernel
theorem d_J_bitCount_51 : decode c_J_bitCount 51 = .ok (.iand, 1) := by decide +kernel
theorem d_J_bitCount_52 : decode c_J_bitCount 52 = .ok (.ireturn, 1) := by decide +kernel
