theorem zd_223_9 : zI_223_9.all (zDq cL_law) = true := by decide +kernel
