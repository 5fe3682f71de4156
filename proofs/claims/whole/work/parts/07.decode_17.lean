theorem zd_223_7 : zI_223_7.all (zDq cL_law) = true := by decide +kernel
