theorem zB_11_3 : zB 11 3 [49, 49] [51] = true := by decide +kernel
theorem zC_11_3 : zC [49, 49] [51] = true := by decide +kernel
theorem zD_11_3 : zD [49, 49] [51] = true := by decide +kernel
theorem zE_11_3 : zE [49, 49] [51] = true := by decide +kernel
theorem zO_11_3 : zO [49, 49] [51] = true := by decide +kernel
theorem zB_11_4 : zB 11 4 [49, 49] [52] = true := by decide +kernel
theorem zC_11_4 : zC [49, 49] [52] = true := by decide +kernel
theorem zD_11_4 : zD [49, 49] [52] = true := by decide +kernel
theorem zE_11_4 : zE [49, 49] [52] = true := by decide +kernel
theorem zO_11_4 : zO [49, 49] [52] = true := by decide +kernel
