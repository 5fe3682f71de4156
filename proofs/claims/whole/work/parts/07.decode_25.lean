theorem zd_223_15 : zI_223_15.all (zDq cL_law) = true := by decide +kernel
