theorem d_F_feed_0 : decode b_F_feed 0 = .ok (.aload_n 0, 1) := by decide +kernel
theorem d_F_feed_1 : decode b_F_feed 1 = .ok (.getfield 12, 3) := by decide +kernel
theorem d_F_feed_4 : decode b_F_feed 4 = .ok (.iconst 0, 1) := by decide +kernel
theorem d_F_feed_5 : decode b_F_feed 5 = .ok (.iload_n 1, 1) := by decide +kernel
theorem d_F_feed_6 : decode b_F_feed 6 = .ok (.invokevirtual 45, 3) := by decide +kernel
theorem d_F_feed_9 : decode b_F_feed 9 = .ok (.aload_n 0, 1) := by decide +kernel
theorem d_F_feed_10 : decode b_F_feed 10 = .ok (.getfield 12, 3) := by decide +kernel
theorem d_F_feed_13 : decode b_F_feed 13 = .ok (.iconst 1, 1) := by decide +kernel
theorem d_F_feed_14 : decode b_F_feed 14 = .ok (.iload_n 2, 1) := by decide +kernel
theorem d_F_feed_15 : decode b_F_feed 15 = .ok (.invokevirtual 45, 3) := by decide +kernel
theorem d_F_feed_18 : decode b_F_feed 18 = .ok (.aload_n 0, 1) := by decide +kernel
theorem d_F_feed_19 : decode b_F_feed 19 = .ok (.getfield 12, 3) := by decide +kernel
theorem d_F_feed_22 : decode b_F_feed 22 = .ok (.iconst 2, 1) := by decide +kernel
theorem d_F_feed_23 : decode b_F_feed 23 = .ok (.iload_n 3, 1) := by decide +kernel
theorem d_F_feed_24 : decode b_F_feed 24 = .ok (.invokevirtual 45, 3) := by decide +kernel
theorem d_F_feed_27 : decode b_F_feed 27 = .ok (.aload_n 0, 1) := by decide +kernel
theorem d_F_feed_28 : decode b_F_feed 28 = .ok (.getfield 12, 3) := by decide +kernel
theorem d_F_feed_31 : decode b_F_feed 31 = .ok (.iconst 3, 1) := by decide +kernel
theorem d_F_feed_32 : decode b_F_feed 32 = .ok (.iload 4, 2) := by decide +kernel
theorem d_F_feed_34 : decode b_F_feed 34 = .ok (.invokevirtual 45, 3) := by decide +kernel
theorem d_F_feed_37 : decode b_F_feed 37 = .ok (.aload_n 0, 1) := by decide +kernel
theorem d_F_feed_38 : decode b_F_feed 38 = .ok (.getfield 12, 3) := by decide +kernel
theorem d_F_feed_41 : decode b_F_feed 41 = .ok (.iconst 4, 1) := by decide +kernel
theorem d_F_feed_42 : decode b_F_feed 42 = .ok (.iload 5, 2) := by decide +kernel
theorem d_F_feed_44 : decode b_F_feed 44 = .ok (.invokevirtual 45, 3) := by decide +kernel
theorem d_F_feed_47 : decode b_F_feed 47 = .ok (.return_, 1) := by decide +kernel
theorem d_F_end_0 : decode b_F_end 0 = .ok (.aload_n 0, 1) := by decide +kernel
theorem d_F_end_1 : decode b_F_end 1 = .ok (.getfield 12, 3) := by decide +kernel
theorem d_F_end_4 : decode b_F_end 4 = .ok (.iload_n 1, 1) := by decide +kernel
theorem d_F_end_5 : decode b_F_end 5 = .ok (.invokevirtual 49, 3) := by decide +kernel
theorem d_F_end_8 : decode b_F_end 8 = .ok (.ireturn, 1) := by decide +kernel
theorem d_F_fault_0 : decode b_F_fault 0 = .ok (.iload_n 1, 1) := by decide +kernel
theorem d_F_fault_1 : decode b_F_fault 1 = .ok (.lookupswitch 43 #[(0, 27), (1, 35)], 27) := by decide +kernel
theorem d_F_fault_28 : decode b_F_fault 28 = .ok (.aload_n 0, 1) := by decide +kernel
theorem d_F_fault_29 : decode b_F_fault 29 = .ok (.getfield 21, 3) := by decide +kernel
theorem d_F_fault_32 : decode b_F_fault 32 = .ok (.invokevirtual 74, 3) := by decide +kernel
theorem d_F_fault_35 : decode b_F_fault 35 = .ok (.ireturn, 1) := by decide +kernel
theorem d_F_fault_36 : decode b_F_fault 36 = .ok (.aload_n 0, 1) := by decide +kernel
theorem d_F_fault_37 : decode b_F_fault 37 = .ok (.getfield 21, 3) := by decide +kernel
theorem d_F_fault_40 : decode b_F_fault 40 = .ok (.invokevirtual 78, 3) := by decide +kernel
theorem d_F_fault_43 : decode b_F_fault 43 = .ok (.ireturn, 1) := by decide +kernel
theorem d_F_fault_44 : decode b_F_fault 44 = .ok (.iconst (-1), 1) := by decide +kernel
theorem d_F_fault_45 : decode b_F_fault 45 = .ok (.ireturn, 1) := by decide +kernel
theorem d_F_many_0 : decode b_F_many 0 = .ok (.iload_n 1, 1) := by decide +kernel
theorem d_F_many_1 : decode b_F_many 1 = .ok (.tableswitch 75 0 4 #[35, 43, 51, 59, 67], 35) := by decide +kernel
theorem d_F_many_36 : decode b_F_many 36 = .ok (.aload_n 0, 1) := by decide +kernel
theorem d_F_many_37 : decode b_F_many 37 = .ok (.getfield 38, 3) := by decide +kernel
theorem d_F_many_40 : decode b_F_many 40 = .ok (.getfield 81, 3) := by decide +kernel
theorem d_F_many_43 : decode b_F_many 43 = .ok (.ireturn, 1) := by decide +kernel
theorem d_F_many_44 : decode b_F_many 44 = .ok (.aload_n 0, 1) := by decide +kernel
theorem d_F_many_45 : decode b_F_many 45 = .ok (.getfield 38, 3) := by decide +kernel
theorem d_F_many_48 : decode b_F_many 48 = .ok (.getfield 84, 3) := by decide +kernel
theorem d_F_many_51 : decode b_F_many 51 = .ok (.ireturn, 1) := by decide +kernel
theorem d_F_many_52 : decode b_F_many 52 = .ok (.aload_n 0, 1) := by decide +kernel
theorem d_F_many_53 : decode b_F_many 53 = .ok (.getfield 38, 3) := by decide +kernel
theorem d_F_many_56 : decode b_F_many 56 = .ok (.getfield 87, 3) := by decide +kernel
theorem d_F_many_59 : decode b_F_many 59 = .ok (.ireturn, 1) := by decide +kernel
theorem d_F_many_60 : decode b_F_many 60 = .ok (.aload_n 0, 1) := by decide +kernel
theorem d_F_many_61 : decode b_F_many 61 = .ok (.getfield 38, 3) := by decide +kernel
theorem d_F_many_64 : decode b_F_many 64 = .ok (.getfield 90, 3) := by decide +kernel
theorem d_F_many_67 : decode b_F_many 67 = .ok (.ireturn, 1) := by decide +kernel
theorem d_F_many_68 : decode b_F_many 68 = .ok (.aload_n 0, 1) := by decide +kernel
theorem d_F_many_69 : decode b_F_many 69 = .ok (.getfield 38, 3) := by decide +kernel
theorem d_F_many_72 : decode b_F_many 72 = .ok (.getfield 70, 3) := by decide +kernel
theorem d_F_many_75 : decode b_F_many 75 = .ok (.ireturn, 1) := by decide +kernel
theorem d_F_many_76 : decode b_F_many 76 = .ok (.iconst (-1), 1) := by decide +kernel
theorem d_F_many_77 : decode b_F_many 77 = .ok (.ireturn, 1) := by decide +kernel
theorem d_F_symbol_0 : decode b_F_symbol 0 = .ok (.iload_n 2, 1) := by decide +kernel
theorem d_F_symbol_1 : decode b_F_symbol 1 = .ok (.ifCond .lt 15, 3) := by decide +kernel
theorem d_F_symbol_4 : decode b_F_symbol 4 = .ok (.iload_n 2, 1) := by decide +kernel
theorem d_F_symbol_5 : decode b_F_symbol 5 = .ok (.aload_n 0, 1) := by decide +kernel
theorem d_F_symbol_6 : decode b_F_symbol 6 = .ok (.getfield 38, 3) := by decide +kernel
theorem d_F_symbol_9 : decode b_F_symbol 9 = .ok (.iload_n 1, 1) := by decide +kernel
theorem d_F_symbol_10 : decode b_F_symbol 10 = .ok (.invokevirtual 93, 3) := by decide +kernel
theorem d_F_symbol_13 : decode b_F_symbol 13 = .ok (.if_icmp .lt 5, 3) := by decide +kernel
theorem d_F_symbol_16 : decode b_F_symbol 16 = .ok (.iconst (-1), 1) := by decide +kernel
theorem d_F_symbol_17 : decode b_F_symbol 17 = .ok (.ireturn, 1) := by decide +kernel
theorem d_F_symbol_18 : decode b_F_symbol 18 = .ok (.iload_n 1, 1) := by decide +kernel
theorem d_F_symbol_19 : decode b_F_symbol 19 = .ok (.iload_n 2, 1) := by decide +kernel
theorem d_F_symbol_20 : decode b_F_symbol 20 = .ok (.invokestatic 96, 3) := by decide +kernel
theorem d_F_symbol_23 : decode b_F_symbol 23 = .ok (.istore 4, 2) := by decide +kernel
theorem d_F_symbol_25 : decode b_F_symbol 25 = .ok (.iload_n 3, 1) := by decide +kernel
theorem d_F_symbol_26 : decode b_F_symbol 26 = .ok (.ifCond .lt 17, 3) := by decide +kernel
theorem d_F_symbol_29 : decode b_F_symbol 29 = .ok (.iload_n 3, 1) := by decide +kernel
theorem d_F_symbol_30 : decode b_F_symbol 30 = .ok (.aload_n 0, 1) := by decide +kernel
theorem d_F_symbol_31 : decode b_F_symbol 31 = .ok (.getfield 38, 3) := by decide +kernel
theorem d_F_symbol_34 : decode b_F_symbol 34 = .ok (.getfield 100, 3) := by decide +kernel
theorem d_F_symbol_37 : decode b_F_symbol 37 = .ok (.iload 4, 2) := by decide +kernel
theorem d_F_symbol_39 : decode b_F_symbol 39 = .ok (.iaload, 1) := by decide +kernel
theorem d_F_symbol_40 : decode b_F_symbol 40 = .ok (.if_icmp .lt 7, 3) := by decide +kernel
theorem d_F_symbol_43 : decode b_F_symbol 43 = .ok (.iconst (-1), 1) := by decide +kernel
theorem d_F_symbol_44 : decode b_F_symbol 44 = .ok (.goto 18, 3) := by decide +kernel
theorem d_F_symbol_47 : decode b_F_symbol 47 = .ok (.aload_n 0, 1) := by decide +kernel
theorem d_F_symbol_48 : decode b_F_symbol 48 = .ok (.getfield 38, 3) := by decide +kernel
theorem d_F_symbol_51 : decode b_F_symbol 51 = .ok (.getfield 104, 3) := by decide +kernel
theorem d_F_symbol_54 : decode b_F_symbol 54 = .ok (.iload 4, 2) := by decide +kernel
theorem d_F_symbol_56 : decode b_F_symbol 56 = .ok (.bipush 40, 2) := by decide +kernel
theorem d_F_symbol_58 : decode b_F_symbol 58 = .ok (.imul, 1) := by decide +kernel
theorem d_F_symbol_59 : decode b_F_symbol 59 = .ok (.iload_n 3, 1) := by decide +kernel
theorem d_F_symbol_60 : decode b_F_symbol 60 = .ok (.iadd, 1) := by decide +kernel
theorem d_F_symbol_61 : decode b_F_symbol 61 = .ok (.iaload, 1) := by decide +kernel
theorem d_F_symbol_62 : decode b_F_symbol 62 = .ok (.ireturn, 1) := by decide +kernel
theorem d_F_form_0 : decode b_F_form 0 = .ok (.iload_n 1, 1) := by decide +kernel
theorem d_F_form_1 : decode b_F_form 1 = .ok (.ifCond .eq 23, 3) := by decide +kernel
theorem d_F_form_4 : decode b_F_form 4 = .ok (.aload_n 0, 1) := by decide +kernel
theorem d_F_form_5 : decode b_F_form 5 = .ok (.getfield 32, 3) := by decide +kernel
theorem d_F_form_8 : decode b_F_form 8 = .ok (.aload_n 0, 1) := by decide +kernel
theorem d_F_form_9 : decode b_F_form 9 = .ok (.getfield 38, 3) := by decide +kernel
theorem d_F_form_12 : decode b_F_form 12 = .ok (.invokevirtual 107, 3) := by decide +kernel
theorem d_F_form_15 : decode b_F_form 15 = .ok (.aload_n 0, 1) := by decide +kernel
theorem d_F_form_16 : decode b_F_form 16 = .ok (.getfield 32, 3) := by decide +kernel
theorem d_F_form_19 : decode b_F_form 19 = .ok (.iload_n 2, 1) := by decide +kernel
theorem d_F_form_20 : decode b_F_form 20 = .ok (.invokevirtual 111, 3) := by decide +kernel
theorem d_F_form_23 : decode b_F_form 23 = .ok (.ireturn, 1) := by decide +kernel
theorem d_F_form_24 : decode b_F_form 24 = .ok (.aload_n 0, 1) := by decide +kernel
theorem d_F_form_25 : decode b_F_form 25 = .ok (.getfield 28, 3) := by decide +kernel
theorem d_F_form_28 : decode b_F_form 28 = .ok (.aload_n 0, 1) := by decide +kernel
theorem d_F_form_29 : decode b_F_form 29 = .ok (.getfield 38, 3) := by decide +kernel
theorem d_F_form_32 : decode b_F_form 32 = .ok (.invokevirtual 114, 3) := by decide +kernel
theorem d_F_form_35 : decode b_F_form 35 = .ok (.aload_n 0, 1) := by decide +kernel
theorem d_F_form_36 : decode b_F_form 36 = .ok (.getfield 28, 3) := by decide +kernel
theorem d_F_form_39 : decode b_F_form 39 = .ok (.iload_n 2, 1) := by decide +kernel
theorem d_F_form_40 : decode b_F_form 40 = .ok (.invokevirtual 111, 3) := by decide +kernel
theorem d_F_form_43 : decode b_F_form 43 = .ok (.ireturn, 1) := by decide +kernel
theorem d_F_reset_0 : decode b_F_reset 0 = .ok (.aload_n 0, 1) := by decide +kernel
theorem d_F_reset_1 : decode b_F_reset 1 = .ok (.getfield 38, 3) := by decide +kernel
theorem d_F_reset_4 : decode b_F_reset 4 = .ok (.iconst 0, 1) := by decide +kernel
theorem d_F_reset_5 : decode b_F_reset 5 = .ok (.putfield 117, 3) := by decide +kernel
theorem d_F_reset_8 : decode b_F_reset 8 = .ok (.return_, 1) := by decide +kernel
theorem d_F_state_0 : decode b_F_state 0 = .ok (.aload_n 0, 1) := by decide +kernel
theorem d_F_state_1 : decode b_F_state 1 = .ok (.getfield 38, 3) := by decide +kernel
theorem d_F_state_4 : decode b_F_state 4 = .ok (.getfield 117, 3) := by decide +kernel
theorem d_F_state_7 : decode b_F_state 7 = .ok (.ireturn, 1) := by decide +kernel
theorem d_F_value_0 : decode b_F_value 0 = .ok (.iload_n 1, 1) := by decide +kernel
theorem d_F_value_1 : decode b_F_value 1 = .ok (.ifCond .lt 25, 3) := by decide +kernel
theorem d_F_value_4 : decode b_F_value 4 = .ok (.iload_n 1, 1) := by decide +kernel
theorem d_F_value_5 : decode b_F_value 5 = .ok (.aload_n 0, 1) := by decide +kernel
theorem d_F_value_6 : decode b_F_value 6 = .ok (.getfield 38, 3) := by decide +kernel
theorem d_F_value_9 : decode b_F_value 9 = .ok (.invokevirtual 120, 3) := by decide +kernel
theorem d_F_value_12 : decode b_F_value 12 = .ok (.if_icmp .gt 14, 3) := by decide +kernel
theorem d_F_value_15 : decode b_F_value 15 = .ok (.aload_n 0, 1) := by decide +kernel
theorem d_F_value_16 : decode b_F_value 16 = .ok (.getfield 38, 3) := by decide +kernel
theorem d_F_value_19 : decode b_F_value 19 = .ok (.iload_n 1, 1) := by decide +kernel
theorem d_F_value_20 : decode b_F_value 20 = .ok (.invokevirtual 123, 3) := by decide +kernel
theorem d_F_value_23 : decode b_F_value 23 = .ok (.ifCond .ne 5, 3) := by decide +kernel
theorem d_F_value_26 : decode b_F_value 26 = .ok (.iconst (-1), 1) := by decide +kernel
theorem d_F_value_27 : decode b_F_value 27 = .ok (.ireturn, 1) := by decide +kernel
theorem d_F_value_28 : decode b_F_value 28 = .ok (.aload_n 0, 1) := by decide +kernel
theorem d_F_value_29 : decode b_F_value 29 = .ok (.getfield 38, 3) := by decide +kernel
theorem d_F_value_32 : decode b_F_value 32 = .ok (.iload_n 2, 1) := by decide +kernel
theorem d_F_value_33 : decode b_F_value 33 = .ok (.invokevirtual 127, 3) := by decide +kernel
theorem d_F_value_36 : decode b_F_value 36 = .ok (.aload_n 0, 1) := by decide +kernel
theorem d_F_value_37 : decode b_F_value 37 = .ok (.getfield 38, 3) := by decide +kernel
theorem d_F_value_40 : decode b_F_value 40 = .ok (.iload_n 1, 1) := by decide +kernel
theorem d_F_value_41 : decode b_F_value 41 = .ok (.invokevirtual 131, 3) := by decide +kernel
theorem d_F_value_44 : decode b_F_value 44 = .ok (.ireturn, 1) := by decide +kernel
theorem d_F_step_0 : decode b_F_step 0 = .ok (.aload_n 0, 1) := by decide +kernel
theorem d_F_step_1 : decode b_F_step 1 = .ok (.getfield 38, 3) := by decide +kernel
theorem d_F_step_4 : decode b_F_step 4 = .ok (.iload_n 1, 1) := by decide +kernel
theorem d_F_step_5 : decode b_F_step 5 = .ok (.invokevirtual 127, 3) := by decide +kernel
theorem d_F_step_8 : decode b_F_step 8 = .ok (.aload_n 0, 1) := by decide +kernel
theorem d_F_step_9 : decode b_F_step 9 = .ok (.getfield 38, 3) := by decide +kernel
theorem d_F_step_12 : decode b_F_step 12 = .ok (.aload_n 0, 1) := by decide +kernel
theorem d_F_step_13 : decode b_F_step 13 = .ok (.getfield 38, 3) := by decide +kernel
theorem d_F_step_16 : decode b_F_step 16 = .ok (.getfield 134, 3) := by decide +kernel
theorem d_F_step_19 : decode b_F_step 19 = .ok (.aload_n 0, 1) := by decide +kernel
theorem d_F_step_20 : decode b_F_step 20 = .ok (.getfield 38, 3) := by decide +kernel
theorem d_F_step_23 : decode b_F_step 23 = .ok (.getfield 90, 3) := by decide +kernel
theorem d_F_step_26 : decode b_F_step 26 = .ok (.invokevirtual 137, 3) := by decide +kernel
theorem d_F_step_29 : decode b_F_step 29 = .ok (.istore_n 2, 1) := by decide +kernel
theorem d_F_step_30 : decode b_F_step 30 = .ok (.aload_n 0, 1) := by decide +kernel
theorem d_F_step_31 : decode b_F_step 31 = .ok (.getfield 38, 3) := by decide +kernel
theorem d_F_step_34 : decode b_F_step 34 = .ok (.aload_n 0, 1) := by decide +kernel
theorem d_F_step_35 : decode b_F_step 35 = .ok (.getfield 38, 3) := by decide +kernel
theorem d_F_step_38 : decode b_F_step 38 = .ok (.aload_n 0, 1) := by decide +kernel
theorem d_F_step_39 : decode b_F_step 39 = .ok (.getfield 38, 3) := by decide +kernel
theorem d_F_step_42 : decode b_F_step 42 = .ok (.getfield 141, 3) := by decide +kernel
theorem d_F_step_45 : decode b_F_step 45 = .ok (.aload_n 0, 1) := by decide +kernel
theorem d_F_step_46 : decode b_F_step 46 = .ok (.getfield 38, 3) := by decide +kernel
theorem d_F_step_49 : decode b_F_step 49 = .ok (.getfield 87, 3) := by decide +kernel
theorem d_F_step_52 : decode b_F_step 52 = .ok (.invokevirtual 137, 3) := by decide +kernel
theorem d_F_step_55 : decode b_F_step 55 = .ok (.putfield 117, 3) := by decide +kernel
theorem d_F_step_58 : decode b_F_step 58 = .ok (.iload_n 2, 1) := by decide +kernel
theorem d_F_step_59 : decode b_F_step 59 = .ok (.ireturn, 1) := by decide +kernel
