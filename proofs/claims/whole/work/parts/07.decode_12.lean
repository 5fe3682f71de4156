theorem zd_223_2 : zI_223_2.all (zDq cL_law) = true := by decide +kernel
