theorem zd_223_12 : zI_223_12.all (zDq cL_law) = true := by decide +kernel
