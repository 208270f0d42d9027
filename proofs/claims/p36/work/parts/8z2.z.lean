theorem zB_10_3 : zB 10 3 [49, 48] [51] = true := by decide +kernel
theorem zC_10_3 : zC [49, 48] [51] = true := by decide +kernel
theorem zD_10_3 : zD [49, 48] [51] = true := by decide +kernel
theorem zE_10_3 : zE [49, 48] [51] = true := by decide +kernel
theorem zO_10_3 : zO [49, 48] [51] = true := by decide +kernel
theorem zB_10_4 : zB 10 4 [49, 48] [52] = true := by decide +kernel
theorem zC_10_4 : zC [49, 48] [52] = true := by decide +kernel
theorem zD_10_4 : zD [49, 48] [52] = true := by decide +kernel
theorem zE_10_4 : zE [49, 48] [52] = true := by decide +kernel
theorem zO_10_4 : zO [49, 48] [52] = true := by decide +kernel
