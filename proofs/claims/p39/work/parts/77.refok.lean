/-! ===== refuses, by evaluation at the numbers of calls that the law has ===== -/
theorem ri_0 : riOK 0 = true := by decide +kernel
theorem ri_1 : riOK 1 = true := by decide +kernel
theorem ri_2 : riOK 2 = true := by decide +kernel
theorem ri_3 : riOK 3 = true := by decide +kernel
theorem ri_4 : riOK 4 = true := by decide +kernel
theorem ri_9 : riOK 9 = true := by decide +kernel
theorem ri_11 : riOK 11 = true := by decide +kernel
theorem ri_17 : riOK 17 = true := by decide +kernel
theorem ri_60 : riOK 60 = true := by decide +kernel
