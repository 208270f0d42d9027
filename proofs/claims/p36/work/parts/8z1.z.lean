theorem zB_9_3 : zB 9 3 [57] [51] = true := by decide +kernel
theorem zC_9_3 : zC [57] [51] = true := by decide +kernel
theorem zD_9_3 : zD [57] [51] = true := by decide +kernel
theorem zE_9_3 : zE [57] [51] = true := by decide +kernel
theorem zO_9_3 : zO [57] [51] = true := by decide +kernel
theorem zB_9_4 : zB 9 4 [57] [52] = true := by decide +kernel
theorem zC_9_4 : zC [57] [52] = true := by decide +kernel
theorem zD_9_4 : zD [57] [52] = true := by decide +kernel
theorem zE_9_4 : zE [57] [52] = true := by decide +kernel
theorem zO_9_4 : zO [57] [52] = true := by decide +kernel
