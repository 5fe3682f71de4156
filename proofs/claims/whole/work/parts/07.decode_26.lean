theorem zd_223_16 : zI_223_16.all (zDq cL_law) = true := by decide +kernel
