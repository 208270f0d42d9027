theorem zB_12_3 : zB 12 3 [49, 50] [51] = true := by decide +kernel
theorem zC_12_3 : zC [49, 50] [51] = true := by decide +kernel
theorem zD_12_3 : zD [49, 50] [51] = true := by decide +kernel
theorem zE_12_3 : zE [49, 50] [51] = true := by decide +kernel
theorem zO_12_3 : zO [49, 50] [51] = true := by decide +kernel
theorem zB_12_4 : zB 12 4 [49, 50] [52] = true := by decide +kernel
theorem zC_12_4 : zC [49, 50] [52] = true := by decide +kernel
theorem zD_12_4 : zD [49, 50] [52] = true := by decide +kernel
theorem zE_12_4 : zE [49, 50] [52] = true := by decide +kernel
theorem zO_12_4 : zO [49, 50] [52] = true := by decide +kernel
