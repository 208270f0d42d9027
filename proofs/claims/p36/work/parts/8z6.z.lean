theorem zB_14_3 : zB 14 3 [49, 52] [51] = true := by decide +kernel
theorem zC_14_3 : zC [49, 52] [51] = true := by decide +kernel
theorem zD_14_3 : zD [49, 52] [51] = true := by decide +kernel
theorem zE_14_3 : zE [49, 52] [51] = true := by decide +kernel
theorem zO_14_3 : zO [49, 52] [51] = true := by decide +kernel
theorem zB_14_4 : zB 14 4 [49, 52] [52] = true := by decide +kernel
theorem zC_14_4 : zC [49, 52] [52] = true := by decide +kernel
theorem zD_14_4 : zD [49, 52] [52] = true := by decide +kernel
theorem zE_14_4 : zE [49, 52] [52] = true := by decide +kernel
theorem zO_14_4 : zO [49, 52] [52] = true := by decide +kernel
