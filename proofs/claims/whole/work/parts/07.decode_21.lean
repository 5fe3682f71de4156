theorem zd_223_11 : zI_223_11.all (zDq cL_law) = true := by decide +kernel
