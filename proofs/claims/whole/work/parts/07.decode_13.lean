theorem zd_223_3 : zI_223_3.all (zDq cL_law) = true := by decide +kernel
