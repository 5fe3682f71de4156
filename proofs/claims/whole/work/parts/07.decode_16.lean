theorem zd_223_6 : zI_223_6.all (zDq cL_law) = true := by decide +kernel
