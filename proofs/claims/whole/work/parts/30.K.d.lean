theorem d_F_slotOf_0 : decode b_F_slotOf 0 = .ok (.iload_n 0, 1) := by decide +kernel
theorem d_F_slotOf_1 : decode b_F_slotOf 1 = .ok (.bipush 8, 2) := by decide +kernel
theorem d_F_slotOf_3 : decode b_F_slotOf 3 = .ok (.imul, 1) := by decide +kernel
theorem d_F_slotOf_4 : decode b_F_slotOf 4 = .ok (.iload_n 1, 1) := by decide +kernel
theorem d_F_slotOf_5 : decode b_F_slotOf 5 = .ok (.iadd, 1) := by decide +kernel
theorem d_F_slotOf_6 : decode b_F_slotOf 6 = .ok (.ireturn, 1) := by decide +kernel
