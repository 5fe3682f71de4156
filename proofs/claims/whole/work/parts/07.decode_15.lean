theorem zd_223_5 : zI_223_5.all (zDq cL_law) = true := by decide +kernel
