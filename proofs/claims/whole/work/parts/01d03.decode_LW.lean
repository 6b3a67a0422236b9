theorem dLW_cell_0 : decode mLW_cell.2.1 0 = .ok (.iload_n 1, 1) := by decide +kernel
theorem dLW_cell_1 : decode mLW_cell.2.1 1 = .ok (.aload_n 0, 1) := by decide +kernel
theorem dLW_cell_2 : decode mLW_cell.2.1 2 = .ok (.arraylength, 1) := by decide +kernel
theorem dLW_cell_3 : decode mLW_cell.2.1 3 = .ok (.if_icmp .ge 9, 3) := by decide +kernel
theorem dLW_cell_6 : decode mLW_cell.2.1 6 = .ok (.aload_n 0, 1) := by decide +kernel
theorem dLW_cell_7 : decode mLW_cell.2.1 7 = .ok (.iload_n 1, 1) := by decide +kernel
theorem dLW_cell_8 : decode mLW_cell.2.1 8 = .ok (.iaload, 1) := by decide +kernel
theorem dLW_cell_9 : decode mLW_cell.2.1 9 = .ok (.goto 4, 3) := by decide +kernel
theorem dLW_cell_12 : decode mLW_cell.2.1 12 = .ok (.iconst 0, 1) := by decide +kernel
theorem dLW_cell_13 : decode mLW_cell.2.1 13 = .ok (.ireturn, 1) := by decide +kernel
