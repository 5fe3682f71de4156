/-! the reference: its object, its small methods -/
def zuN (v : Nat → Int) (k : Nat) (x : Int) : Nat → Int := fun j => if j = k then x else v j
theorem zuN_eq {v : Nat → Int} {k : Nat} {x : Int} : zuN v k x k = x := if_pos rfl
theorem zuN_ne {v : Nat → Int} {k j : Nat} {x : Int} (h : j ≠ k) : zuN v k x j = v j := if_neg h
def zMo (c : Nat) (v : Nat → Int) : zE := zOb 9 [.ref (c + 1), .ref (c + 2), .ref (c + 3), .ref (c + 4), .int (zi (v 4)), .int (zi (v 5)), .int (zi (v 6)), .int (zi (v 7)), .int (zi (v 8)), .int (zi (v 9)), .int (zi (v 10)), .int (zi (v 11)), .int (zi (v 12)), .int (zi (v 13)), .int (zi (v 14)), .int (zi (v 15)), .int (zi (v 16)), .int (zi (v 17)), .int (zi (v 18)), .ref (c + 5), .ref (c + 6), .ref (c + 7), .int (zi (v 22)), .int (zi (v 23)), .ref (c + 8), .ref (c + 9), .ref (c + 10), .ref (c + 11), .ref (c + 12), .ref (c + 13), .ref (c + 14), .int (zi (v 31)), .int (zi (v 32)), .ref (c + 15), .ref (c + 16), .ref (c + 17), .int (zi (v 36)), .ref (c + 18)]
theorem zgm_0 {c : Nat} {v : Nat → Int} : zGf (some (zMo c v)) 9 0 = some (.ref (c + 1)) := rfl
theorem zgm_1 {c : Nat} {v : Nat → Int} : zGf (some (zMo c v)) 9 1 = some (.ref (c + 2)) := rfl
theorem zgm_2 {c : Nat} {v : Nat → Int} : zGf (some (zMo c v)) 9 2 = some (.ref (c + 3)) := rfl
theorem zgm_3 {c : Nat} {v : Nat → Int} : zGf (some (zMo c v)) 9 3 = some (.ref (c + 4)) := rfl
theorem zgm_4 {c : Nat} {v : Nat → Int} : zGf (some (zMo c v)) 9 4 = some (.int (zi (v 4))) := rfl
theorem zpm_4 {M : zM} {a c : Nat} {v : Nat → Int} {x : Int} : zPf M a (some (zMo c v)) 9 4 (.int (zi x)) = some (zset M a (zMo c (zuN v 4 x))) := rfl
theorem zgm_5 {c : Nat} {v : Nat → Int} : zGf (some (zMo c v)) 9 5 = some (.int (zi (v 5))) := rfl
theorem zpm_5 {M : zM} {a c : Nat} {v : Nat → Int} {x : Int} : zPf M a (some (zMo c v)) 9 5 (.int (zi x)) = some (zset M a (zMo c (zuN v 5 x))) := rfl
theorem zgm_6 {c : Nat} {v : Nat → Int} : zGf (some (zMo c v)) 9 6 = some (.int (zi (v 6))) := rfl
theorem zpm_6 {M : zM} {a c : Nat} {v : Nat → Int} {x : Int} : zPf M a (some (zMo c v)) 9 6 (.int (zi x)) = some (zset M a (zMo c (zuN v 6 x))) := rfl
theorem zgm_7 {c : Nat} {v : Nat → Int} : zGf (some (zMo c v)) 9 7 = some (.int (zi (v 7))) := rfl
theorem zpm_7 {M : zM} {a c : Nat} {v : Nat → Int} {x : Int} : zPf M a (some (zMo c v)) 9 7 (.int (zi x)) = some (zset M a (zMo c (zuN v 7 x))) := rfl
theorem zgm_8 {c : Nat} {v : Nat → Int} : zGf (some (zMo c v)) 9 8 = some (.int (zi (v 8))) := rfl
theorem zpm_8 {M : zM} {a c : Nat} {v : Nat → Int} {x : Int} : zPf M a (some (zMo c v)) 9 8 (.int (zi x)) = some (zset M a (zMo c (zuN v 8 x))) := rfl
theorem zgm_9 {c : Nat} {v : Nat → Int} : zGf (some (zMo c v)) 9 9 = some (.int (zi (v 9))) := rfl
theorem zpm_9 {M : zM} {a c : Nat} {v : Nat → Int} {x : Int} : zPf M a (some (zMo c v)) 9 9 (.int (zi x)) = some (zset M a (zMo c (zuN v 9 x))) := rfl
theorem zgm_10 {c : Nat} {v : Nat → Int} : zGf (some (zMo c v)) 9 10 = some (.int (zi (v 10))) := rfl
theorem zpm_10 {M : zM} {a c : Nat} {v : Nat → Int} {x : Int} : zPf M a (some (zMo c v)) 9 10 (.int (zi x)) = some (zset M a (zMo c (zuN v 10 x))) := rfl
theorem zgm_11 {c : Nat} {v : Nat → Int} : zGf (some (zMo c v)) 9 11 = some (.int (zi (v 11))) := rfl
theorem zpm_11 {M : zM} {a c : Nat} {v : Nat → Int} {x : Int} : zPf M a (some (zMo c v)) 9 11 (.int (zi x)) = some (zset M a (zMo c (zuN v 11 x))) := rfl
theorem zgm_12 {c : Nat} {v : Nat → Int} : zGf (some (zMo c v)) 9 12 = some (.int (zi (v 12))) := rfl
theorem zpm_12 {M : zM} {a c : Nat} {v : Nat → Int} {x : Int} : zPf M a (some (zMo c v)) 9 12 (.int (zi x)) = some (zset M a (zMo c (zuN v 12 x))) := rfl
theorem zgm_13 {c : Nat} {v : Nat → Int} : zGf (some (zMo c v)) 9 13 = some (.int (zi (v 13))) := rfl
theorem zpm_13 {M : zM} {a c : Nat} {v : Nat → Int} {x : Int} : zPf M a (some (zMo c v)) 9 13 (.int (zi x)) = some (zset M a (zMo c (zuN v 13 x))) := rfl
theorem zgm_14 {c : Nat} {v : Nat → Int} : zGf (some (zMo c v)) 9 14 = some (.int (zi (v 14))) := rfl
theorem zpm_14 {M : zM} {a c : Nat} {v : Nat → Int} {x : Int} : zPf M a (some (zMo c v)) 9 14 (.int (zi x)) = some (zset M a (zMo c (zuN v 14 x))) := rfl
theorem zgm_15 {c : Nat} {v : Nat → Int} : zGf (some (zMo c v)) 9 15 = some (.int (zi (v 15))) := rfl
theorem zpm_15 {M : zM} {a c : Nat} {v : Nat → Int} {x : Int} : zPf M a (some (zMo c v)) 9 15 (.int (zi x)) = some (zset M a (zMo c (zuN v 15 x))) := rfl
theorem zgm_16 {c : Nat} {v : Nat → Int} : zGf (some (zMo c v)) 9 16 = some (.int (zi (v 16))) := rfl
theorem zpm_16 {M : zM} {a c : Nat} {v : Nat → Int} {x : Int} : zPf M a (some (zMo c v)) 9 16 (.int (zi x)) = some (zset M a (zMo c (zuN v 16 x))) := rfl
theorem zgm_17 {c : Nat} {v : Nat → Int} : zGf (some (zMo c v)) 9 17 = some (.int (zi (v 17))) := rfl
theorem zpm_17 {M : zM} {a c : Nat} {v : Nat → Int} {x : Int} : zPf M a (some (zMo c v)) 9 17 (.int (zi x)) = some (zset M a (zMo c (zuN v 17 x))) := rfl
theorem zgm_18 {c : Nat} {v : Nat → Int} : zGf (some (zMo c v)) 9 18 = some (.int (zi (v 18))) := rfl
theorem zpm_18 {M : zM} {a c : Nat} {v : Nat → Int} {x : Int} : zPf M a (some (zMo c v)) 9 18 (.int (zi x)) = some (zset M a (zMo c (zuN v 18 x))) := rfl
theorem zgm_19 {c : Nat} {v : Nat → Int} : zGf (some (zMo c v)) 9 19 = some (.ref (c + 5)) := rfl
theorem zgm_20 {c : Nat} {v : Nat → Int} : zGf (some (zMo c v)) 9 20 = some (.ref (c + 6)) := rfl
theorem zgm_21 {c : Nat} {v : Nat → Int} : zGf (some (zMo c v)) 9 21 = some (.ref (c + 7)) := rfl
theorem zgm_22 {c : Nat} {v : Nat → Int} : zGf (some (zMo c v)) 9 22 = some (.int (zi (v 22))) := rfl
theorem zpm_22 {M : zM} {a c : Nat} {v : Nat → Int} {x : Int} : zPf M a (some (zMo c v)) 9 22 (.int (zi x)) = some (zset M a (zMo c (zuN v 22 x))) := rfl
theorem zgm_23 {c : Nat} {v : Nat → Int} : zGf (some (zMo c v)) 9 23 = some (.int (zi (v 23))) := rfl
theorem zpm_23 {M : zM} {a c : Nat} {v : Nat → Int} {x : Int} : zPf M a (some (zMo c v)) 9 23 (.int (zi x)) = some (zset M a (zMo c (zuN v 23 x))) := rfl
theorem zgm_24 {c : Nat} {v : Nat → Int} : zGf (some (zMo c v)) 9 24 = some (.ref (c + 8)) := rfl
theorem zgm_25 {c : Nat} {v : Nat → Int} : zGf (some (zMo c v)) 9 25 = some (.ref (c + 9)) := rfl
theorem zgm_26 {c : Nat} {v : Nat → Int} : zGf (some (zMo c v)) 9 26 = some (.ref (c + 10)) := rfl
theorem zgm_27 {c : Nat} {v : Nat → Int} : zGf (some (zMo c v)) 9 27 = some (.ref (c + 11)) := rfl
theorem zgm_28 {c : Nat} {v : Nat → Int} : zGf (some (zMo c v)) 9 28 = some (.ref (c + 12)) := rfl
theorem zgm_29 {c : Nat} {v : Nat → Int} : zGf (some (zMo c v)) 9 29 = some (.ref (c + 13)) := rfl
theorem zgm_30 {c : Nat} {v : Nat → Int} : zGf (some (zMo c v)) 9 30 = some (.ref (c + 14)) := rfl
theorem zgm_31 {c : Nat} {v : Nat → Int} : zGf (some (zMo c v)) 9 31 = some (.int (zi (v 31))) := rfl
theorem zpm_31 {M : zM} {a c : Nat} {v : Nat → Int} {x : Int} : zPf M a (some (zMo c v)) 9 31 (.int (zi x)) = some (zset M a (zMo c (zuN v 31 x))) := rfl
theorem zgm_32 {c : Nat} {v : Nat → Int} : zGf (some (zMo c v)) 9 32 = some (.int (zi (v 32))) := rfl
theorem zpm_32 {M : zM} {a c : Nat} {v : Nat → Int} {x : Int} : zPf M a (some (zMo c v)) 9 32 (.int (zi x)) = some (zset M a (zMo c (zuN v 32 x))) := rfl
theorem zgm_33 {c : Nat} {v : Nat → Int} : zGf (some (zMo c v)) 9 33 = some (.ref (c + 15)) := rfl
theorem zgm_34 {c : Nat} {v : Nat → Int} : zGf (some (zMo c v)) 9 34 = some (.ref (c + 16)) := rfl
theorem zgm_35 {c : Nat} {v : Nat → Int} : zGf (some (zMo c v)) 9 35 = some (.ref (c + 17)) := rfl
theorem zgm_36 {c : Nat} {v : Nat → Int} : zGf (some (zMo c v)) 9 36 = some (.int (zi (v 36))) := rfl
theorem zpm_36 {M : zM} {a c : Nat} {v : Nat → Int} {x : Int} : zPf M a (some (zMo c v)) 9 36 (.int (zi x)) = some (zset M a (zMo c (zuN v 36 x))) := rfl
theorem zgm_37 {c : Nat} {v : Nat → Int} : zGf (some (zMo c v)) 9 37 = some (.ref (c + 18)) := rfl
theorem zis_mo {c : Nat} {v : Nat → Int} : zis (some (zMo c v)) 9 = true := rfl
theorem zdiv_f {x y : Int} (h : 0 ≤ x ∧ 0 < y) : x.tdiv y = x / y := Int.tdiv_eq_ediv_of_nonneg h.1
theorem s_in {d : Nat} {v a b : Int} {M : zM} {K : zK} (h : -4294967296 ≤ v ∧ v < 4294967296 ∧ -4294967296 ≤ a ∧ a < 4294967296 ∧ -4294967296 ≤ b ∧ b < 4294967296) : zC (d + 1) 148 [.long (zl (v)), .long (zl (a)), .long (zl (b))] M K = K (some (.int (zi (zb (decide (a ≤ v ∧ v ≤ b)))))) M := by
  by_cases c : v < a
  · simp (disch := omega) only [zen_148, e_148_0, e_148_1, e_148_2, e_148_3t, e_148_3f, e_148_6, e_148_7, e_148_9, e_148_10t, e_148_10f, e_148_13, e_148_14, e_148_17, e_148_18, zPa_some, zPn_some, zRK_some, zRK_none, zCk_t, zis_ob, zget_set_eq, zget_set_ne, zAld_10, zAld_11, zAst_10, zAst_11, zAlen_10, zAlen_11, zbd_t, zbd_f, zb_t, zb_f, zset_set, s_one0, s_one1, zis_so]
  · by_cases c2 : b < v
    · simp (disch := omega) only [zen_148, e_148_0, e_148_1, e_148_2, e_148_3t, e_148_3f, e_148_6, e_148_7, e_148_9, e_148_10t, e_148_10f, e_148_13, e_148_14, e_148_17, e_148_18, zPa_some, zPn_some, zRK_some, zRK_none, zCk_t, zis_ob, zget_set_eq, zget_set_ne, zAld_10, zAld_11, zAst_10, zAst_11, zAlen_10, zAlen_11, zbd_t, zbd_f, zb_t, zb_f, zset_set, s_one0, s_one1, zis_so]
    · simp (disch := omega) only [zen_148, e_148_0, e_148_1, e_148_2, e_148_3t, e_148_3f, e_148_6, e_148_7, e_148_9, e_148_10t, e_148_10f, e_148_13, e_148_14, e_148_17, e_148_18, zPa_some, zPn_some, zRK_some, zRK_none, zCk_t, zis_ob, zget_set_eq, zget_set_ne, zAld_10, zAld_11, zAst_10, zAst_11, zAlen_10, zAlen_11, zbd_t, zbd_f, zb_t, zb_f, zset_set, s_one0, s_one1, zis_so]
theorem s_turned {d : Nat} {x : Int} {M : zM} {K : zK} (h : -2147483648 ≤ x ∧ x < 2147483648) : zC (d + 1) 150 [.int (zi x)] M K = K (some (.int (zi (x % 24)))) M := by
  by_cases c : x < 0
  · have e1 := zmod_n (x := x) (y := 24) (by omega)
    have e2 := zmod_f (x := x.tmod 24 + 24) (y := 24) (by omega)
    simp (disch := omega) only [zen_150, e_150_0, e_150_1, e_150_3, e_150_4, e_150_6, e_150_7, e_150_9, e_150_10, zPa_some, zPn_some, zRK_some, zRK_none, zCk_t, zis_ob, zget_set_eq, zget_set_ne, zAld_10, zAld_11, zAst_10, zAst_11, zAlen_10, zAlen_11, zbd_t, zbd_f, zb_t, zb_f, zset_set, s_one0, s_one1, zis_so]
    rw [e2, show (x.tmod 24 + 24) % 24 = x % 24 by omega]
  · have e1 := zmod_f (x := x) (y := 24) (by omega)
    have e2 := zmod_f (x := x.tmod 24 + 24) (y := 24) (by omega)
    simp (disch := omega) only [zen_150, e_150_0, e_150_1, e_150_3, e_150_4, e_150_6, e_150_7, e_150_9, e_150_10, zPa_some, zPn_some, zRK_some, zRK_none, zCk_t, zis_ob, zget_set_eq, zget_set_ne, zAld_10, zAld_11, zAst_10, zAst_11, zAlen_10, zAlen_11, zbd_t, zbd_f, zb_t, zb_f, zset_set, s_one0, s_one1, zis_so]
    rw [e2, show (x.tmod 24 + 24) % 24 = x % 24 by omega]
theorem s_at {d : Nat} {k r a : Int} {M : zM} {K : zK} (h : -2147483648 ≤ a ∧ a < 2147483648) : zC (d + 2) 151 [.int (zi k), .int (zi r), .int (zi a)] M K = K (some (.int (zi (192 * k + 24 * r + a % 24)))) M := by
  simp (disch := omega) only [zen_151, e_151_0, e_151_3, e_151_4, e_151_5, e_151_7, e_151_8, e_151_9, e_151_10, e_151_11, e_151_14, e_151_15, zPa_some, zPn_some, zRK_some, zRK_none, zCk_t, zis_ob, zget_set_eq, zget_set_ne, zAld_10, zAld_11, zAst_10, zAst_11, zAlen_10, zAlen_11, zbd_t, zbd_f, zb_t, zb_f, zset_set, s_one0, s_one1, zis_so, s_turned]
theorem s_isStoneM {d : Nat} {k : Int} {M : zM} {K : zK} (h : -2147483648 ≤ k ∧ k < 2147483648) : zC (d + 2) 152 [.int (zi k)] M K = K (some (.int (zi (zb (decide (0 ≤ k ∧ k ≤ 3)))))) M := by
  have hb := zb_rng (decide (0 ≤ k ∧ k ≤ 3))
  simp (disch := omega) only [zen_152, e_152_0, e_152_1, e_152_2, e_152_3, e_152_6, e_152_9, zPa_some, zPn_some, zRK_some, zRK_none, zCk_t, zis_ob, zget_set_eq, zget_set_ne, zAld_10, zAld_11, zAst_10, zAst_11, zAlen_10, zAlen_11, zbd_t, zbd_f, zb_t, zb_f, zset_set, s_one0, s_one1, zis_so, s_in]
theorem s_isSectorM {d : Nat} {k : Int} {M : zM} {K : zK} (h : -2147483648 ≤ k ∧ k < 2147483648) : zC (d + 2) 153 [.int (zi k)] M K = K (some (.int (zi (zb (decide (0 ≤ k ∧ k ≤ 23)))))) M := by
  have hb := zb_rng (decide (0 ≤ k ∧ k ≤ 23))
  simp (disch := omega) only [zen_153, e_153_0, e_153_1, e_153_2, e_153_3, e_153_6, e_153_9, zPa_some, zPn_some, zRK_some, zRK_none, zCk_t, zis_ob, zget_set_eq, zget_set_ne, zAld_10, zAld_11, zAst_10, zAst_11, zAlen_10, zAlen_11, zbd_t, zbd_f, zb_t, zb_f, zset_set, s_one0, s_one1, zis_so, s_in]
theorem s_isMillM {d : Nat} {k : Int} {M : zM} {K : zK} (h : -2147483648 ≤ k ∧ k < 2147483648) : zC (d + 2) 200 [.int (zi k)] M K = K (some (.int (zi (zb (decide (0 ≤ k ∧ k ≤ 5)))))) M := by
  have hb := zb_rng (decide (0 ≤ k ∧ k ≤ 5))
  simp (disch := omega) only [zen_200, e_200_0, e_200_1, e_200_2, e_200_3, e_200_6, e_200_9, zPa_some, zPn_some, zRK_some, zRK_none, zCk_t, zis_ob, zget_set_eq, zget_set_ne, zAld_10, zAld_11, zAst_10, zAst_11, zAlen_10, zAlen_11, zbd_t, zbd_f, zb_t, zb_f, zset_set, s_one0, s_one1, zis_so, s_in]
theorem s_isSpotM {d : Nat} {k r a : Int} {M : zM} {K : zK} (h : -2147483648 ≤ k ∧ k < 2147483648 ∧ -2147483648 ≤ r ∧ r < 2147483648 ∧ -2147483648 ≤ a ∧ a < 2147483648) : zC (d + 3) 154 [.int (zi k), .int (zi r), .int (zi a)] M K = K (some (.int (zi (zb (decide ((0 ≤ k ∧ k ≤ 3) ∧ (0 ≤ r ∧ r ≤ 7) ∧ (0 ≤ a ∧ a ≤ 23))))))) M := by
  by_cases c1 : 0 ≤ k ∧ k ≤ 3
  · by_cases c2 : 0 ≤ r ∧ r ≤ 7
    · by_cases c3 : 0 ≤ a ∧ a ≤ 23
      · simp (disch := omega) only [zen_154, e_154_0, e_154_1, e_154_4t, e_154_4f, e_154_7, e_154_8, e_154_9, e_154_10, e_154_13, e_154_16t, e_154_16f, e_154_19, e_154_20, e_154_23t, e_154_23f, e_154_26, e_154_27, e_154_30, e_154_31, zPa_some, zPn_some, zRK_some, zRK_none, zCk_t, zis_ob, zget_set_eq, zget_set_ne, zAld_10, zAld_11, zAst_10, zAst_11, zAlen_10, zAlen_11, zbd_t, zbd_f, zb_t, zb_f, zset_set, s_one0, s_one1, zis_so, s_isStoneM, s_isSectorM, s_in]
      · simp (disch := omega) only [zen_154, e_154_0, e_154_1, e_154_4t, e_154_4f, e_154_7, e_154_8, e_154_9, e_154_10, e_154_13, e_154_16t, e_154_16f, e_154_19, e_154_20, e_154_23t, e_154_23f, e_154_26, e_154_27, e_154_30, e_154_31, zPa_some, zPn_some, zRK_some, zRK_none, zCk_t, zis_ob, zget_set_eq, zget_set_ne, zAld_10, zAld_11, zAst_10, zAst_11, zAlen_10, zAlen_11, zbd_t, zbd_f, zb_t, zb_f, zset_set, s_one0, s_one1, zis_so, s_isStoneM, s_isSectorM, s_in]
    · simp (disch := omega) only [zen_154, e_154_0, e_154_1, e_154_4t, e_154_4f, e_154_7, e_154_8, e_154_9, e_154_10, e_154_13, e_154_16t, e_154_16f, e_154_19, e_154_20, e_154_23t, e_154_23f, e_154_26, e_154_27, e_154_30, e_154_31, zPa_some, zPn_some, zRK_some, zRK_none, zCk_t, zis_ob, zget_set_eq, zget_set_ne, zAld_10, zAld_11, zAst_10, zAst_11, zAlen_10, zAlen_11, zbd_t, zbd_f, zb_t, zb_f, zset_set, s_one0, s_one1, zis_so, s_isStoneM, s_isSectorM, s_in]
  · simp (disch := omega) only [zen_154, e_154_0, e_154_1, e_154_4t, e_154_4f, e_154_7, e_154_8, e_154_9, e_154_10, e_154_13, e_154_16t, e_154_16f, e_154_19, e_154_20, e_154_23t, e_154_23f, e_154_26, e_154_27, e_154_30, e_154_31, zPa_some, zPn_some, zRK_some, zRK_none, zCk_t, zis_ob, zget_set_eq, zget_set_ne, zAld_10, zAld_11, zAst_10, zAst_11, zAlen_10, zAlen_11, zbd_t, zbd_f, zb_t, zb_f, zset_set, s_one0, s_one1, zis_so, s_isStoneM, s_isSectorM, s_in]
theorem s_floor800 {d : Nat} {x : Int} {M : zM} {K : zK} (h : -2147483648 ≤ x ∧ x < 2147483648) : zC (d + 1) 149 [.int (zi x), .int (zi 800)] M K = K (some (.int (zi (x / 800)))) M := by
  by_cases c : x < 0
  · have e1 := zmod_n (x := x) (y := 800) (by omega)
    have e3 : x.tdiv 800 = - ((-x) / 800) := by
      have e : x = -(-x) := by omega
      conv => lhs; rw [e]
      rw [Int.neg_tdiv, Int.tdiv_eq_ediv_of_nonneg (by omega)]
    by_cases c2 : (-x) % 800 = 0
    · simp (disch := omega) only [zen_149, e_149_0, e_149_1, e_149_2, e_149_3, e_149_4, e_149_5t, e_149_5f, e_149_8, e_149_9, e_149_10, e_149_11t, e_149_11f, e_149_14, e_149_15, e_149_16, e_149_17, e_149_20, e_149_21, zPa_some, zPn_some, zRK_some, zRK_none, zCk_t, zis_ob, zget_set_eq, zget_set_ne, zAld_10, zAld_11, zAst_10, zAst_11, zAlen_10, zAlen_11, zbd_t, zbd_f, zb_t, zb_f, zset_set, s_one0, s_one1, zis_so]
      rw [show x.tdiv 800 = x / 800 by omega]
    · simp (disch := omega) only [zen_149, e_149_0, e_149_1, e_149_2, e_149_3, e_149_4, e_149_5t, e_149_5f, e_149_8, e_149_9, e_149_10, e_149_11t, e_149_11f, e_149_14, e_149_15, e_149_16, e_149_17, e_149_20, e_149_21, zPa_some, zPn_some, zRK_some, zRK_none, zCk_t, zis_ob, zget_set_eq, zget_set_ne, zAld_10, zAld_11, zAst_10, zAst_11, zAlen_10, zAlen_11, zbd_t, zbd_f, zb_t, zb_f, zset_set, s_one0, s_one1, zis_so]
      rw [show x.tdiv 800 - 1 = x / 800 by omega]
  · have e3 := zdiv_f (x := x) (y := 800) (by omega)
    simp (disch := omega) only [zen_149, e_149_0, e_149_1, e_149_2, e_149_3, e_149_4, e_149_5t, e_149_5f, e_149_8, e_149_9, e_149_10, e_149_11t, e_149_11f, e_149_14, e_149_15, e_149_16, e_149_17, e_149_20, e_149_21, zPa_some, zPn_some, zRK_some, zRK_none, zCk_t, zis_ob, zget_set_eq, zget_set_ne, zAld_10, zAld_11, zAst_10, zAst_11, zAlen_10, zAlen_11, zbd_t, zbd_f, zb_t, zb_f, zset_set, s_one0, s_one1, zis_so]
    rw [e3]
theorem s_floor8 {d : Nat} {x : Int} {M : zM} {K : zK} (h : -2147483648 ≤ x ∧ x < 2147483648) : zC (d + 1) 149 [.int (zi x), .int (zi 8)] M K = K (some (.int (zi (x / 8)))) M := by
  by_cases c : x < 0
  · have e1 := zmod_n (x := x) (y := 8) (by omega)
    have e3 : x.tdiv 8 = - ((-x) / 8) := by
      have e : x = -(-x) := by omega
      conv => lhs; rw [e]
      rw [Int.neg_tdiv, Int.tdiv_eq_ediv_of_nonneg (by omega)]
    by_cases c2 : (-x) % 8 = 0
    · simp (disch := omega) only [zen_149, e_149_0, e_149_1, e_149_2, e_149_3, e_149_4, e_149_5t, e_149_5f, e_149_8, e_149_9, e_149_10, e_149_11t, e_149_11f, e_149_14, e_149_15, e_149_16, e_149_17, e_149_20, e_149_21, zPa_some, zPn_some, zRK_some, zRK_none, zCk_t, zis_ob, zget_set_eq, zget_set_ne, zAld_10, zAld_11, zAst_10, zAst_11, zAlen_10, zAlen_11, zbd_t, zbd_f, zb_t, zb_f, zset_set, s_one0, s_one1, zis_so]
      rw [show x.tdiv 8 = x / 8 by omega]
    · simp (disch := omega) only [zen_149, e_149_0, e_149_1, e_149_2, e_149_3, e_149_4, e_149_5t, e_149_5f, e_149_8, e_149_9, e_149_10, e_149_11t, e_149_11f, e_149_14, e_149_15, e_149_16, e_149_17, e_149_20, e_149_21, zPa_some, zPn_some, zRK_some, zRK_none, zCk_t, zis_ob, zget_set_eq, zget_set_ne, zAld_10, zAld_11, zAst_10, zAst_11, zAlen_10, zAlen_11, zbd_t, zbd_f, zb_t, zb_f, zset_set, s_one0, s_one1, zis_so]
      rw [show x.tdiv 8 - 1 = x / 8 by omega]
  · have e3 := zdiv_f (x := x) (y := 8) (by omega)
    simp (disch := omega) only [zen_149, e_149_0, e_149_1, e_149_2, e_149_3, e_149_4, e_149_5t, e_149_5f, e_149_8, e_149_9, e_149_10, e_149_11t, e_149_11f, e_149_14, e_149_15, e_149_16, e_149_17, e_149_20, e_149_21, zPa_some, zPn_some, zRK_some, zRK_none, zCk_t, zis_ob, zget_set_eq, zget_set_ne, zAld_10, zAld_11, zAst_10, zAst_11, zAlen_10, zAlen_11, zbd_t, zbd_f, zb_t, zb_f, zset_set, s_one0, s_one1, zis_so]
    rw [e3]
