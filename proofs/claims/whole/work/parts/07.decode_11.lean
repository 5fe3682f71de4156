theorem zd_223_1 : zI_223_1.all (zDq cL_law) = true := by decide +kernel
