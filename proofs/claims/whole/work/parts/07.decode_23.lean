theorem zd_223_13 : zI_223_13.all (zDq cL_law) = true := by decide +kernel
