theorem zd_223_10 : zI_223_10.all (zDq cL_law) = true := by decide +kernel
