theorem zB_13_3 : zB 13 3 [49, 51] [51] = true := by decide +kernel
theorem zC_13_3 : zC [49, 51] [51] = true := by decide +kernel
theorem zD_13_3 : zD [49, 51] [51] = true := by decide +kernel
theorem zE_13_3 : zE [49, 51] [51] = true := by decide +kernel
theorem zO_13_3 : zO [49, 51] [51] = true := by decide +kernel
theorem zB_13_4 : zB 13 4 [49, 51] [52] = true := by decide +kernel
theorem zC_13_4 : zC [49, 51] [52] = true := by decide +kernel
theorem zD_13_4 : zD [49, 51] [52] = true := by decide +kernel
theorem zE_13_4 : zE [49, 51] [52] = true := by decide +kernel
theorem zO_13_4 : zO [49, 51] [52] = true := by decide +kernel
