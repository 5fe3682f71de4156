theorem zd_223_4 : zI_223_4.all (zDq cL_law) = true := by decide +kernel
