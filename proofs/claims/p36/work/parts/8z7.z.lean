theorem zB_15_3 : zB 15 3 [49, 53] [51] = true := by decide +kernel
theorem zC_15_3 : zC [49, 53] [51] = true := by decide +kernel
theorem zD_15_3 : zD [49, 53] [51] = true := by decide +kernel
theorem zE_15_3 : zE [49, 53] [51] = true := by decide +kernel
theorem zO_15_3 : zO [49, 53] [51] = true := by decide +kernel
theorem zB_15_4 : zB 15 4 [49, 53] [52] = true := by decide +kernel
theorem zC_15_4 : zC [49, 53] [52] = true := by decide +kernel
theorem zD_15_4 : zD [49, 53] [52] = true := by decide +kernel
theorem zE_15_4 : zE [49, 53] [52] = true := by decide +kernel
theorem zO_15_4 : zO [49, 53] [52] = true := by decide +kernel
