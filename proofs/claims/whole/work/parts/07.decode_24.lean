theorem zd_223_14 : zI_223_14.all (zDq cL_law) = true := by decide +kernel
