theorem zd_217_4 : zI_217_4.all (zDq cX9_digest) = true := by decide +kernel
theorem zd_218 : zI_218.all (zDq cJ9_floorDiv_7cf53) = true := by decide +kernel
theorem zd_219 : zI_219.all (zDq cJ9_floorMod_7cf53) = true := by decide +kernel
theorem zd_220 : zI_220.all (zDq cJ9_abs_0f7a4) = true := by decide +kernel
theorem zd_221 : zI_221.all (zDq cJ9_max_7cf53) = true := by decide +kernel
theorem zd_222 : zI_222.all (zDq cJ9_min_7cf53) = true := by decide +kernel
theorem zd_223_0 : zI_223_0.all (zDq cL_law) = true := by decide +kernel
