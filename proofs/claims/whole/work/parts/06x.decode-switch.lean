/-! DECODE ROWS of the switches (by program) -/
theorem dB_told_66 : decode cB_told 66 = .ok (.tableswitch 54 0 3 #[30, 36, 42, 48], 30) := by decide +kernel
theorem dB_log_14 : decode cB_log 14 = .ok (.tableswitch 107 0 7 #[46, 51, 56, 61, 66, 71, 83, 95], 46) := by decide +kernel
theorem dB_count_1 : decode cB_count 1 = .ok (.tableswitch 97 0 7 #[47, 52, 57, 62, 67, 72, 77, 87], 47) := by decide +kernel
