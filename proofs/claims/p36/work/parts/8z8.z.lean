theorem zB_16_3 : zB 16 3 [49, 54] [51] = true := by decide +kernel
theorem zC_16_3 : zC [49, 54] [51] = true := by decide +kernel
theorem zD_16_3 : zD [49, 54] [51] = true := by decide +kernel
theorem zE_16_3 : zE [49, 54] [51] = true := by decide +kernel
theorem zO_16_3 : zO [49, 54] [51] = true := by decide +kernel
theorem zB_16_4 : zB 16 4 [49, 54] [52] = true := by decide +kernel
theorem zC_16_4 : zC [49, 54] [52] = true := by decide +kernel
theorem zD_16_4 : zD [49, 54] [52] = true := by decide +kernel
theorem zE_16_4 : zE [49, 54] [52] = true := by decide +kernel
theorem zO_16_4 : zO [49, 54] [52] = true := by decide +kernel
