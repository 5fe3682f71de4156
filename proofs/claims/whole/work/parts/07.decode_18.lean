theorem zd_223_8 : zI_223_8.all (zDq cL_law) = true := by decide +kernel
