/-! the calls: spot, chisel, crack, stuff, high, level, staff -/
theorem zst_rng {b : Nat} {k : Int} (h : 0 ≤ k ∧ k ≤ 3) : b + 22 ≤ zst b k ∧ zst b k + 6 ≤ b + 46 := by unfold zst; omega
section PUB3
variable {b c : Nat} {v w : Nat → Int} {F C D : Int → Bool} {G : Int → Int} {R : Nat → Int → Int} {M : zM}
def oSpot (F C : Int → Bool) (G : Int → Int) (k r a u : Int) : Int := if (0 ≤ k ∧ k ≤ 3) ∧ (0 ≤ r ∧ r ≤ 7) ∧ 0 ≤ a ∧ a ≤ 23 then (if u = 0 then zb (F (192 * k + (r * 24 + a % 24))) else if u = 1 then G (192 * k + (r * 24 + a % 24)) else if u = 2 then zb (C (192 * k + (r * 24 + a % 24))) else -102) else -101
theorem x_spot (x : XI b v F C G R D M) (k r a u : Int) (h : -2147483648 ≤ k ∧ k < 2147483648 ∧ -2147483648 ≤ r ∧ r < 2147483648 ∧ -2147483648 ≤ a ∧ a < 2147483648 ∧ -2147483648 ≤ u ∧ u < 2147483648) : XCl b 6 96 [.ref b, .int (zi k), .int (zi r), .int (zi a), .int (zi u)] (.int (zi (oSpot F C G k r a u))) v F C G R D M := by
  refine XCl_p x (fun d K => ?_)
  have h0 := x.1.1
  have h1 := x.1.2.1
  unfold oSpot
  by_cases c1 : 0 ≤ k ∧ k ≤ 3
  · by_cases c2 : 0 ≤ r ∧ r ≤ 7
    · by_cases c3 : 0 ≤ a ∧ a ≤ 23
      · rw [if_pos ⟨c1, c2, c3⟩]
        obtain ⟨q1, q2, q3, q4, -⟩ := x.2.1 k c1.1 c1.2
        by_cases u0 : u = 0
        · rw [if_pos u0]
          simp (disch := omega) only [zen_96, e_96_0, e_96_1, e_96_4t, e_96_4f, e_96_7, e_96_8, e_96_9, e_96_12t, e_96_12f, e_96_15, e_96_17, e_96_18, e_96_20, e_96_21, e_96_22, e_96_25t, e_96_25f, e_96_28, e_96_30, e_96_31, e_96_33t, e_96_33f, e_96_36, e_96_37, e_96_40, e_96_41, e_96_42, e_96_43, e_96_44, e_96_47, e_96_50, e_96_51, e_96_53, e_96_54t, e_96_54f, e_96_57, e_96_58, e_96_61, e_96_62, e_96_63, e_96_64, e_96_65, e_96_68, e_96_71, e_96_72, e_96_75, e_96_76, e_96_77, e_96_78, e_96_79, e_96_82, e_96_85, zgf_8_0, zPa_some, zPn_some, zRK_some, zRK_none, zCk_t, zis_ob, zget_set_eq, zget_set_ne, zAld_10, zAld_11, zAst_10, zAst_11, zAlen_10, zAlen_11, zbd_t, zbd_f, zb_t, zb_f, zset_set, s_one0, s_one1, zis_so, h0, h1, q1, s_isStoneX, s_isSpotX, s_isWithin, zAld_st, s_isFurrow q1 q2, s_oneIf]
          rfl
        · rw [if_neg u0]
          by_cases u1 : u = 1
          · rw [if_pos u1]
            simp (disch := omega) only [zen_96, e_96_0, e_96_1, e_96_4t, e_96_4f, e_96_7, e_96_8, e_96_9, e_96_12t, e_96_12f, e_96_15, e_96_17, e_96_18, e_96_20, e_96_21, e_96_22, e_96_25t, e_96_25f, e_96_28, e_96_30, e_96_31, e_96_33t, e_96_33f, e_96_36, e_96_37, e_96_40, e_96_41, e_96_42, e_96_43, e_96_44, e_96_47, e_96_50, e_96_51, e_96_53, e_96_54t, e_96_54f, e_96_57, e_96_58, e_96_61, e_96_62, e_96_63, e_96_64, e_96_65, e_96_68, e_96_71, e_96_72, e_96_75, e_96_76, e_96_77, e_96_78, e_96_79, e_96_82, e_96_85, zgf_8_0, zPa_some, zPn_some, zRK_some, zRK_none, zCk_t, zis_ob, zget_set_eq, zget_set_ne, zAld_10, zAld_11, zAst_10, zAst_11, zAlen_10, zAlen_11, zbd_t, zbd_f, zb_t, zb_f, zset_set, s_one0, s_one1, zis_so, h0, h1, q1, s_isStoneX, s_isSpotX, s_isWithin, zAld_st, s_heightAt q1 q4]
            rfl
          · rw [if_neg u1]
            by_cases u2 : u = 2
            · rw [if_pos u2]
              simp (disch := omega) only [zen_96, e_96_0, e_96_1, e_96_4t, e_96_4f, e_96_7, e_96_8, e_96_9, e_96_12t, e_96_12f, e_96_15, e_96_17, e_96_18, e_96_20, e_96_21, e_96_22, e_96_25t, e_96_25f, e_96_28, e_96_30, e_96_31, e_96_33t, e_96_33f, e_96_36, e_96_37, e_96_40, e_96_41, e_96_42, e_96_43, e_96_44, e_96_47, e_96_50, e_96_51, e_96_53, e_96_54t, e_96_54f, e_96_57, e_96_58, e_96_61, e_96_62, e_96_63, e_96_64, e_96_65, e_96_68, e_96_71, e_96_72, e_96_75, e_96_76, e_96_77, e_96_78, e_96_79, e_96_82, e_96_85, zgf_8_0, zPa_some, zPn_some, zRK_some, zRK_none, zCk_t, zis_ob, zget_set_eq, zget_set_ne, zAld_10, zAld_11, zAst_10, zAst_11, zAlen_10, zAlen_11, zbd_t, zbd_f, zb_t, zb_f, zset_set, s_one0, s_one1, zis_so, h0, h1, q1, s_isStoneX, s_isSpotX, s_isWithin, zAld_st, s_isCracked q1 q3, s_oneIf]
              rfl
            · rw [if_neg u2]
              simp (disch := omega) only [zen_96, e_96_0, e_96_1, e_96_4t, e_96_4f, e_96_7, e_96_8, e_96_9, e_96_12t, e_96_12f, e_96_15, e_96_17, e_96_18, e_96_20, e_96_21, e_96_22, e_96_25t, e_96_25f, e_96_28, e_96_30, e_96_31, e_96_33t, e_96_33f, e_96_36, e_96_37, e_96_40, e_96_41, e_96_42, e_96_43, e_96_44, e_96_47, e_96_50, e_96_51, e_96_53, e_96_54t, e_96_54f, e_96_57, e_96_58, e_96_61, e_96_62, e_96_63, e_96_64, e_96_65, e_96_68, e_96_71, e_96_72, e_96_75, e_96_76, e_96_77, e_96_78, e_96_79, e_96_82, e_96_85, zgf_8_0, zPa_some, zPn_some, zRK_some, zRK_none, zCk_t, zis_ob, zget_set_eq, zget_set_ne, zAld_10, zAld_11, zAst_10, zAst_11, zAlen_10, zAlen_11, zbd_t, zbd_f, zb_t, zb_f, zset_set, s_one0, s_one1, zis_so, s_isStoneX, s_isSpotX, s_isWithin]
      · rw [if_neg (fun q => c3 q.2.2)]
        simp (disch := omega) only [zen_96, e_96_0, e_96_1, e_96_4t, e_96_4f, e_96_7, e_96_8, e_96_9, e_96_12t, e_96_12f, e_96_15, e_96_17, e_96_18, e_96_20, e_96_21, e_96_22, e_96_25t, e_96_25f, e_96_28, e_96_30, e_96_31, e_96_33t, e_96_33f, e_96_36, e_96_37, e_96_40, e_96_41, e_96_42, e_96_43, e_96_44, e_96_47, e_96_50, e_96_51, e_96_53, e_96_54t, e_96_54f, e_96_57, e_96_58, e_96_61, e_96_62, e_96_63, e_96_64, e_96_65, e_96_68, e_96_71, e_96_72, e_96_75, e_96_76, e_96_77, e_96_78, e_96_79, e_96_82, e_96_85, zgf_8_0, zPa_some, zPn_some, zRK_some, zRK_none, zCk_t, zis_ob, zget_set_eq, zget_set_ne, zAld_10, zAld_11, zAst_10, zAst_11, zAlen_10, zAlen_11, zbd_t, zbd_f, zb_t, zb_f, zset_set, s_one0, s_one1, zis_so, s_isStoneX, s_isSpotX]
    · rw [if_neg (fun q => c2 q.2.1)]
      simp (disch := omega) only [zen_96, e_96_0, e_96_1, e_96_4t, e_96_4f, e_96_7, e_96_8, e_96_9, e_96_12t, e_96_12f, e_96_15, e_96_17, e_96_18, e_96_20, e_96_21, e_96_22, e_96_25t, e_96_25f, e_96_28, e_96_30, e_96_31, e_96_33t, e_96_33f, e_96_36, e_96_37, e_96_40, e_96_41, e_96_42, e_96_43, e_96_44, e_96_47, e_96_50, e_96_51, e_96_53, e_96_54t, e_96_54f, e_96_57, e_96_58, e_96_61, e_96_62, e_96_63, e_96_64, e_96_65, e_96_68, e_96_71, e_96_72, e_96_75, e_96_76, e_96_77, e_96_78, e_96_79, e_96_82, e_96_85, zgf_8_0, zPa_some, zPn_some, zRK_some, zRK_none, zCk_t, zis_ob, zget_set_eq, zget_set_ne, zAld_10, zAld_11, zAst_10, zAst_11, zAlen_10, zAlen_11, zbd_t, zbd_f, zb_t, zb_f, zset_set, s_one0, s_one1, zis_so, s_isStoneX, s_isSpotX]
  · rw [if_neg (fun q => c1 q.1)]
    simp (disch := omega) only [zen_96, e_96_0, e_96_1, e_96_4t, e_96_4f, e_96_7, e_96_8, e_96_9, e_96_12t, e_96_12f, e_96_15, e_96_17, e_96_18, e_96_20, e_96_21, e_96_22, e_96_25t, e_96_25f, e_96_28, e_96_30, e_96_31, e_96_33t, e_96_33f, e_96_36, e_96_37, e_96_40, e_96_41, e_96_42, e_96_43, e_96_44, e_96_47, e_96_50, e_96_51, e_96_53, e_96_54t, e_96_54f, e_96_57, e_96_58, e_96_61, e_96_62, e_96_63, e_96_64, e_96_65, e_96_68, e_96_71, e_96_72, e_96_75, e_96_76, e_96_77, e_96_78, e_96_79, e_96_82, e_96_85, zgf_8_0, zPa_some, zPn_some, zRK_some, zRK_none, zCk_t, zis_ob, zget_set_eq, zget_set_ne, zAld_10, zAld_11, zAst_10, zAst_11, zAlen_10, zAlen_11, zbd_t, zbd_f, zb_t, zb_f, zset_set, s_one0, s_one1, zis_so, s_isStoneX, s_isSpotX]
theorem m_spot (x : MI c v F C G R D M) (k r a u : Int) (h : -2147483648 ≤ k ∧ k < 2147483648 ∧ -2147483648 ≤ r ∧ r < 2147483648 ∧ -2147483648 ≤ a ∧ a < 2147483648 ∧ -2147483648 ≤ u ∧ u < 2147483648) : MCl c 6 157 [.ref c, .int (zi k), .int (zi r), .int (zi a), .int (zi u)] (.int (zi (oSpot F C G k r a u))) v F C G R D M := by
  refine MCl_p x (fun d K => ?_)
  obtain ⟨w, ha, h0, h1, h2, h3, -⟩ := x
  unfold oSpot
  by_cases c1 : (0 ≤ k ∧ k ≤ 3) ∧ (0 ≤ r ∧ r ≤ 7) ∧ 0 ≤ a ∧ a ≤ 23
  · rw [if_pos c1]
    have e : 192 * k + 24 * r + a % 24 = 192 * k + (r * 24 + a % 24) := by omega
    by_cases u0 : u = 0
    · rw [if_pos u0]
      cases f : F (192 * k + (r * 24 + a % 24)) with
      | true => simp (disch := omega) only [zgm_0, zgm_1, zgm_2, zgm_3, zgm_4, zgm_5, zgm_6, zgm_7, zgm_8, zgm_9, zgm_10, zgm_11, zgm_12, zgm_13, zgm_14, zgm_15, zgm_16, zgm_17, zgm_18, zgm_19, zgm_20, zgm_21, zgm_22, zgm_23, zgm_24, zgm_25, zgm_26, zgm_27, zgm_28, zgm_29, zgm_30, zgm_31, zgm_32, zgm_33, zgm_34, zgm_35, zgm_36, zgm_37, zpm_4, zpm_5, zpm_6, zpm_7, zpm_8, zpm_9, zpm_10, zpm_11, zpm_12, zpm_13, zpm_14, zpm_15, zpm_16, zpm_17, zpm_18, zpm_22, zpm_23, zpm_31, zpm_32, zpm_36, zis_mo, zuN_eq, zuN_ne, zen_157, e_157_0, e_157_1, e_157_2, e_157_3, e_157_6t, e_157_6f, e_157_9, e_157_11, e_157_12, e_157_13, e_157_14, e_157_15, e_157_18, e_157_20, e_157_22t, e_157_22f, e_157_25, e_157_26, e_157_29, e_157_31, e_157_32t, e_157_32f, e_157_35, e_157_36, e_157_39, e_157_40, e_157_43, e_157_45, e_157_46t, e_157_46f, e_157_49, e_157_50, e_157_53, e_157_55, e_157_56, e_157_59, e_157_61, e_157_62t, e_157_62f, e_157_65, e_157_66, e_157_69, e_157_71, e_157_72t, e_157_72f, e_157_75, e_157_76, e_157_79, e_157_80, e_157_83, e_157_85, zPa_some, zPn_some, zRK_some, zRK_none, zCk_t, zis_ob, zget_set_eq, zget_set_ne, zAld_10, zAld_11, zAst_10, zAst_11, zAlen_10, zAlen_11, zbd_t, zbd_f, zb_t, zb_f, zset_set, s_one0, s_one1, zis_so, h0, h1, s_isSpotM, s_at, e, zAld_b, f]
      | false => simp (disch := omega) only [zgm_0, zgm_1, zgm_2, zgm_3, zgm_4, zgm_5, zgm_6, zgm_7, zgm_8, zgm_9, zgm_10, zgm_11, zgm_12, zgm_13, zgm_14, zgm_15, zgm_16, zgm_17, zgm_18, zgm_19, zgm_20, zgm_21, zgm_22, zgm_23, zgm_24, zgm_25, zgm_26, zgm_27, zgm_28, zgm_29, zgm_30, zgm_31, zgm_32, zgm_33, zgm_34, zgm_35, zgm_36, zgm_37, zpm_4, zpm_5, zpm_6, zpm_7, zpm_8, zpm_9, zpm_10, zpm_11, zpm_12, zpm_13, zpm_14, zpm_15, zpm_16, zpm_17, zpm_18, zpm_22, zpm_23, zpm_31, zpm_32, zpm_36, zis_mo, zuN_eq, zuN_ne, zen_157, e_157_0, e_157_1, e_157_2, e_157_3, e_157_6t, e_157_6f, e_157_9, e_157_11, e_157_12, e_157_13, e_157_14, e_157_15, e_157_18, e_157_20, e_157_22t, e_157_22f, e_157_25, e_157_26, e_157_29, e_157_31, e_157_32t, e_157_32f, e_157_35, e_157_36, e_157_39, e_157_40, e_157_43, e_157_45, e_157_46t, e_157_46f, e_157_49, e_157_50, e_157_53, e_157_55, e_157_56, e_157_59, e_157_61, e_157_62t, e_157_62f, e_157_65, e_157_66, e_157_69, e_157_71, e_157_72t, e_157_72f, e_157_75, e_157_76, e_157_79, e_157_80, e_157_83, e_157_85, zPa_some, zPn_some, zRK_some, zRK_none, zCk_t, zis_ob, zget_set_eq, zget_set_ne, zAld_10, zAld_11, zAst_10, zAst_11, zAlen_10, zAlen_11, zbd_t, zbd_f, zb_t, zb_f, zset_set, s_one0, s_one1, zis_so, h0, h1, s_isSpotM, s_at, e, zAld_b, f]
    · rw [if_neg u0]
      by_cases u1 : u = 1
      · rw [if_pos u1]
        simp (disch := omega) only [zgm_0, zgm_1, zgm_2, zgm_3, zgm_4, zgm_5, zgm_6, zgm_7, zgm_8, zgm_9, zgm_10, zgm_11, zgm_12, zgm_13, zgm_14, zgm_15, zgm_16, zgm_17, zgm_18, zgm_19, zgm_20, zgm_21, zgm_22, zgm_23, zgm_24, zgm_25, zgm_26, zgm_27, zgm_28, zgm_29, zgm_30, zgm_31, zgm_32, zgm_33, zgm_34, zgm_35, zgm_36, zgm_37, zpm_4, zpm_5, zpm_6, zpm_7, zpm_8, zpm_9, zpm_10, zpm_11, zpm_12, zpm_13, zpm_14, zpm_15, zpm_16, zpm_17, zpm_18, zpm_22, zpm_23, zpm_31, zpm_32, zpm_36, zis_mo, zuN_eq, zuN_ne, zen_157, e_157_0, e_157_1, e_157_2, e_157_3, e_157_6t, e_157_6f, e_157_9, e_157_11, e_157_12, e_157_13, e_157_14, e_157_15, e_157_18, e_157_20, e_157_22t, e_157_22f, e_157_25, e_157_26, e_157_29, e_157_31, e_157_32t, e_157_32f, e_157_35, e_157_36, e_157_39, e_157_40, e_157_43, e_157_45, e_157_46t, e_157_46f, e_157_49, e_157_50, e_157_53, e_157_55, e_157_56, e_157_59, e_157_61, e_157_62t, e_157_62f, e_157_65, e_157_66, e_157_69, e_157_71, e_157_72t, e_157_72f, e_157_75, e_157_76, e_157_79, e_157_80, e_157_83, e_157_85, zPa_some, zPn_some, zRK_some, zRK_none, zCk_t, zis_ob, zget_set_eq, zget_set_ne, zAld_10, zAld_11, zAst_10, zAst_11, zAlen_10, zAlen_11, zbd_t, zbd_f, zb_t, zb_f, zset_set, s_one0, s_one1, zis_so, h0, h2, s_isSpotM, s_at, e]
      · rw [if_neg u1]
        by_cases u2 : u = 2
        · rw [if_pos u2]
          cases f : C (192 * k + (r * 24 + a % 24)) with
          | true => simp (disch := omega) only [zgm_0, zgm_1, zgm_2, zgm_3, zgm_4, zgm_5, zgm_6, zgm_7, zgm_8, zgm_9, zgm_10, zgm_11, zgm_12, zgm_13, zgm_14, zgm_15, zgm_16, zgm_17, zgm_18, zgm_19, zgm_20, zgm_21, zgm_22, zgm_23, zgm_24, zgm_25, zgm_26, zgm_27, zgm_28, zgm_29, zgm_30, zgm_31, zgm_32, zgm_33, zgm_34, zgm_35, zgm_36, zgm_37, zpm_4, zpm_5, zpm_6, zpm_7, zpm_8, zpm_9, zpm_10, zpm_11, zpm_12, zpm_13, zpm_14, zpm_15, zpm_16, zpm_17, zpm_18, zpm_22, zpm_23, zpm_31, zpm_32, zpm_36, zis_mo, zuN_eq, zuN_ne, zen_157, e_157_0, e_157_1, e_157_2, e_157_3, e_157_6t, e_157_6f, e_157_9, e_157_11, e_157_12, e_157_13, e_157_14, e_157_15, e_157_18, e_157_20, e_157_22t, e_157_22f, e_157_25, e_157_26, e_157_29, e_157_31, e_157_32t, e_157_32f, e_157_35, e_157_36, e_157_39, e_157_40, e_157_43, e_157_45, e_157_46t, e_157_46f, e_157_49, e_157_50, e_157_53, e_157_55, e_157_56, e_157_59, e_157_61, e_157_62t, e_157_62f, e_157_65, e_157_66, e_157_69, e_157_71, e_157_72t, e_157_72f, e_157_75, e_157_76, e_157_79, e_157_80, e_157_83, e_157_85, zPa_some, zPn_some, zRK_some, zRK_none, zCk_t, zis_ob, zget_set_eq, zget_set_ne, zAld_10, zAld_11, zAst_10, zAst_11, zAlen_10, zAlen_11, zbd_t, zbd_f, zb_t, zb_f, zset_set, s_one0, s_one1, zis_so, h0, h3, s_isSpotM, s_at, e, zAld_b, f]
          | false => simp (disch := omega) only [zgm_0, zgm_1, zgm_2, zgm_3, zgm_4, zgm_5, zgm_6, zgm_7, zgm_8, zgm_9, zgm_10, zgm_11, zgm_12, zgm_13, zgm_14, zgm_15, zgm_16, zgm_17, zgm_18, zgm_19, zgm_20, zgm_21, zgm_22, zgm_23, zgm_24, zgm_25, zgm_26, zgm_27, zgm_28, zgm_29, zgm_30, zgm_31, zgm_32, zgm_33, zgm_34, zgm_35, zgm_36, zgm_37, zpm_4, zpm_5, zpm_6, zpm_7, zpm_8, zpm_9, zpm_10, zpm_11, zpm_12, zpm_13, zpm_14, zpm_15, zpm_16, zpm_17, zpm_18, zpm_22, zpm_23, zpm_31, zpm_32, zpm_36, zis_mo, zuN_eq, zuN_ne, zen_157, e_157_0, e_157_1, e_157_2, e_157_3, e_157_6t, e_157_6f, e_157_9, e_157_11, e_157_12, e_157_13, e_157_14, e_157_15, e_157_18, e_157_20, e_157_22t, e_157_22f, e_157_25, e_157_26, e_157_29, e_157_31, e_157_32t, e_157_32f, e_157_35, e_157_36, e_157_39, e_157_40, e_157_43, e_157_45, e_157_46t, e_157_46f, e_157_49, e_157_50, e_157_53, e_157_55, e_157_56, e_157_59, e_157_61, e_157_62t, e_157_62f, e_157_65, e_157_66, e_157_69, e_157_71, e_157_72t, e_157_72f, e_157_75, e_157_76, e_157_79, e_157_80, e_157_83, e_157_85, zPa_some, zPn_some, zRK_some, zRK_none, zCk_t, zis_ob, zget_set_eq, zget_set_ne, zAld_10, zAld_11, zAst_10, zAst_11, zAlen_10, zAlen_11, zbd_t, zbd_f, zb_t, zb_f, zset_set, s_one0, s_one1, zis_so, h0, h3, s_isSpotM, s_at, e, zAld_b, f]
        · rw [if_neg u2]
          simp (disch := omega) only [zgm_0, zgm_1, zgm_2, zgm_3, zgm_4, zgm_5, zgm_6, zgm_7, zgm_8, zgm_9, zgm_10, zgm_11, zgm_12, zgm_13, zgm_14, zgm_15, zgm_16, zgm_17, zgm_18, zgm_19, zgm_20, zgm_21, zgm_22, zgm_23, zgm_24, zgm_25, zgm_26, zgm_27, zgm_28, zgm_29, zgm_30, zgm_31, zgm_32, zgm_33, zgm_34, zgm_35, zgm_36, zgm_37, zpm_4, zpm_5, zpm_6, zpm_7, zpm_8, zpm_9, zpm_10, zpm_11, zpm_12, zpm_13, zpm_14, zpm_15, zpm_16, zpm_17, zpm_18, zpm_22, zpm_23, zpm_31, zpm_32, zpm_36, zis_mo, zuN_eq, zuN_ne, zen_157, e_157_0, e_157_1, e_157_2, e_157_3, e_157_6t, e_157_6f, e_157_9, e_157_11, e_157_12, e_157_13, e_157_14, e_157_15, e_157_18, e_157_20, e_157_22t, e_157_22f, e_157_25, e_157_26, e_157_29, e_157_31, e_157_32t, e_157_32f, e_157_35, e_157_36, e_157_39, e_157_40, e_157_43, e_157_45, e_157_46t, e_157_46f, e_157_49, e_157_50, e_157_53, e_157_55, e_157_56, e_157_59, e_157_61, e_157_62t, e_157_62f, e_157_65, e_157_66, e_157_69, e_157_71, e_157_72t, e_157_72f, e_157_75, e_157_76, e_157_79, e_157_80, e_157_83, e_157_85, zPa_some, zPn_some, zRK_some, zRK_none, zCk_t, zis_ob, zget_set_eq, zget_set_ne, zAld_10, zAld_11, zAst_10, zAst_11, zAlen_10, zAlen_11, zbd_t, zbd_f, zb_t, zb_f, zset_set, s_one0, s_one1, zis_so, h0, s_isSpotM, s_at, e]
  · rw [if_neg c1]
    simp (disch := omega) only [zgm_0, zgm_1, zgm_2, zgm_3, zgm_4, zgm_5, zgm_6, zgm_7, zgm_8, zgm_9, zgm_10, zgm_11, zgm_12, zgm_13, zgm_14, zgm_15, zgm_16, zgm_17, zgm_18, zgm_19, zgm_20, zgm_21, zgm_22, zgm_23, zgm_24, zgm_25, zgm_26, zgm_27, zgm_28, zgm_29, zgm_30, zgm_31, zgm_32, zgm_33, zgm_34, zgm_35, zgm_36, zgm_37, zpm_4, zpm_5, zpm_6, zpm_7, zpm_8, zpm_9, zpm_10, zpm_11, zpm_12, zpm_13, zpm_14, zpm_15, zpm_16, zpm_17, zpm_18, zpm_22, zpm_23, zpm_31, zpm_32, zpm_36, zis_mo, zuN_eq, zuN_ne, zen_157, e_157_0, e_157_1, e_157_2, e_157_3, e_157_6t, e_157_6f, e_157_9, e_157_11, e_157_12, e_157_13, e_157_14, e_157_15, e_157_18, e_157_20, e_157_22t, e_157_22f, e_157_25, e_157_26, e_157_29, e_157_31, e_157_32t, e_157_32f, e_157_35, e_157_36, e_157_39, e_157_40, e_157_43, e_157_45, e_157_46t, e_157_46f, e_157_49, e_157_50, e_157_53, e_157_55, e_157_56, e_157_59, e_157_61, e_157_62t, e_157_62f, e_157_65, e_157_66, e_157_69, e_157_71, e_157_72t, e_157_72f, e_157_75, e_157_76, e_157_79, e_157_80, e_157_83, e_157_85, zPa_some, zPn_some, zRK_some, zRK_none, zCk_t, zis_ob, zget_set_eq, zget_set_ne, zAld_10, zAld_11, zAst_10, zAst_11, zAlen_10, zAlen_11, zbd_t, zbd_f, zb_t, zb_f, zset_set, s_one0, s_one1, zis_so, h0, s_isSpotM]
def oChisel (G : Int → Int) (k r a y : Int) : Int × (Int → Int) := if (0 ≤ k ∧ k ≤ 3) ∧ (0 ≤ r ∧ r ≤ 7) ∧ 0 ≤ a ∧ a ≤ 23 then (if 0 ≤ y ∧ y ≤ 60 then (G (192 * k + (r * 24 + a % 24)) - min y (G (192 * k + (r * 24 + a % 24))), zu G (192 * k + (r * 24 + a % 24)) (G (192 * k + (r * 24 + a % 24)) - min y (G (192 * k + (r * 24 + a % 24))))) else (-102, G)) else (-101, G)
theorem RI_chisel (ri : RI v G R D) (k r a y : Int) : RI v (oChisel G k r a y).2 R D := by
  unfold oChisel
  split
  · split
    · obtain ⟨r1, r2, r3⟩ := ri
      refine ⟨r1, fun j h1 h2 => ?_, r3⟩
      have q1 := r2 j h1 h2
      have q2 := r2 (192 * k + (r * 24 + a % 24)) (by omega) (by omega)
      dsimp only
      unfold zu
      split
      · omega
      · exact q1
    · exact ri
  · exact ri
theorem x_chisel (x : XI b v F C G R D M) (ri : RI v G R D) (k r a y : Int) (h : -2147483648 ≤ k ∧ k < 2147483648 ∧ -2147483648 ≤ r ∧ r < 2147483648 ∧ -2147483648 ≤ a ∧ a < 2147483648 ∧ -2147483648 ≤ y ∧ y < 2147483648) : XCl b 6 97 [.ref b, .int (zi k), .int (zi r), .int (zi a), .int (zi y)] (.int (zi (oChisel G k r a y).1)) v F C (oChisel G k r a y).2 R D M := by
  unfold oChisel
  by_cases c1 : 0 ≤ k ∧ k ≤ 3
  · by_cases c2 : 0 ≤ r ∧ r ≤ 7
    · by_cases c3 : 0 ≤ a ∧ a ≤ 23
      · rw [if_pos ⟨c1, c2, c3⟩]
        by_cases c4 : 0 ≤ y ∧ y ≤ 60
        · rw [if_pos c4]
          obtain ⟨x1, x2, x3, x4, x5, x6, x7, x8⟩ := x
          obtain ⟨q1, q2, q3, q4, -⟩ := x2 k c1.1 c1.2
          have hz := zst_rng (b := b) c1
          have rg := RGh_sh ri.2.1 c1
          have f1 := zFr_set (lo := zst b k + 3) (n := 1) (a := zst b k + 3) (M := M) (x := zA 10 192 (zu (sh k G) (r * 24 + a % 24) (sh k G (r * 24 + a % 24) - min y (sh k G (r * 24 + a % 24))))) (by omega)
          have hq := s_heightAt (M := zset M (zst b k + 3) (zA 10 192 (zu (sh k G) (r * 24 + a % 24) (sh k G (r * 24 + a % 24) - min y (sh k G (r * 24 + a % 24)))))) ((zget_set_ne (by omega)).trans q1) zget_set_eq
          refine ⟨_, fun d K => ?_, ⟨XO_fr x1 f1 (by omega), XS_upG x2 c1 ?_ ?_, XH_fr x3 f1 (by omega), XG_fr x4 f1 (by omega), XT_fr x5 f1 (by omega), XR_fr x6 f1 (by omega), XM_fr x7 f1 (by omega), XP_fr x8 f1 (by omega)⟩, zFr_mono f1 (by omega)⟩
          · have h0 := x1.1
            have h1 := x1.2.1
            have e1 : zu (sh k G) (r * 24 + a % 24) (sh k G (r * 24 + a % 24) - min y (sh k G (r * 24 + a % 24))) (r * 24 + a % 24) = sh k G (r * 24 + a % 24) - min y (sh k G (r * 24 + a % 24)) := if_pos rfl
            simp (disch := omega) only [zen_97, e_97_0, e_97_1, e_97_4t, e_97_4f, e_97_7, e_97_8, e_97_9, e_97_12t, e_97_12f, e_97_15, e_97_17, e_97_18, e_97_20, e_97_21, e_97_23, e_97_26t, e_97_26f, e_97_29, e_97_31, e_97_32, e_97_33, e_97_36, e_97_37, e_97_38, e_97_39, e_97_40, e_97_42, e_97_45, e_97_46, e_97_47, e_97_50, e_97_51, e_97_52, e_97_53, e_97_54, e_97_57, zgf_8_0, zPa_some, zPn_some, zRK_some, zRK_none, zCk_t, zis_ob, zget_set_eq, zget_set_ne, zAld_10, zAld_11, zAst_10, zAst_11, zAlen_10, zAlen_11, zbd_t, zbd_f, zb_t, zb_f, zset_set, s_one0, s_one1, zis_so, h0, h1, q1, s_isStoneX, s_isSpotX, s_isWithin, zAld_st, s_lower q1 q4 rg, hq, e1]
            rfl
          · intro j h1 h2
            unfold zu
            dsimp only
            by_cases e : j = r * 24 + a % 24
            · rw [if_pos e, if_pos (by omega)]
              rfl
            · rw [if_neg e, if_neg (by omega)]
              rfl
          · intro s h1 h2 h3
            exact if_neg (by omega)
        · rw [if_neg c4]
          refine XCl_p x (fun d K => ?_)
          simp (disch := omega) only [zen_97, e_97_0, e_97_1, e_97_4t, e_97_4f, e_97_7, e_97_8, e_97_9, e_97_12t, e_97_12f, e_97_15, e_97_17, e_97_18, e_97_20, e_97_21, e_97_23, e_97_26t, e_97_26f, e_97_29, e_97_31, e_97_32, e_97_33, e_97_36, e_97_37, e_97_38, e_97_39, e_97_40, e_97_42, e_97_45, e_97_46, e_97_47, e_97_50, e_97_51, e_97_52, e_97_53, e_97_54, e_97_57, zgf_8_0, zPa_some, zPn_some, zRK_some, zRK_none, zCk_t, zis_ob, zget_set_eq, zget_set_ne, zAld_10, zAld_11, zAst_10, zAst_11, zAlen_10, zAlen_11, zbd_t, zbd_f, zb_t, zb_f, zset_set, s_one0, s_one1, zis_so, s_isStoneX, s_isSpotX, s_isWithin]
      · rw [if_neg (fun q => c3 q.2.2)]
        refine XCl_p x (fun d K => ?_)
        simp (disch := omega) only [zen_97, e_97_0, e_97_1, e_97_4t, e_97_4f, e_97_7, e_97_8, e_97_9, e_97_12t, e_97_12f, e_97_15, e_97_17, e_97_18, e_97_20, e_97_21, e_97_23, e_97_26t, e_97_26f, e_97_29, e_97_31, e_97_32, e_97_33, e_97_36, e_97_37, e_97_38, e_97_39, e_97_40, e_97_42, e_97_45, e_97_46, e_97_47, e_97_50, e_97_51, e_97_52, e_97_53, e_97_54, e_97_57, zgf_8_0, zPa_some, zPn_some, zRK_some, zRK_none, zCk_t, zis_ob, zget_set_eq, zget_set_ne, zAld_10, zAld_11, zAst_10, zAst_11, zAlen_10, zAlen_11, zbd_t, zbd_f, zb_t, zb_f, zset_set, s_one0, s_one1, zis_so, s_isStoneX, s_isSpotX]
    · rw [if_neg (fun q => c2 q.2.1)]
      refine XCl_p x (fun d K => ?_)
      simp (disch := omega) only [zen_97, e_97_0, e_97_1, e_97_4t, e_97_4f, e_97_7, e_97_8, e_97_9, e_97_12t, e_97_12f, e_97_15, e_97_17, e_97_18, e_97_20, e_97_21, e_97_23, e_97_26t, e_97_26f, e_97_29, e_97_31, e_97_32, e_97_33, e_97_36, e_97_37, e_97_38, e_97_39, e_97_40, e_97_42, e_97_45, e_97_46, e_97_47, e_97_50, e_97_51, e_97_52, e_97_53, e_97_54, e_97_57, zgf_8_0, zPa_some, zPn_some, zRK_some, zRK_none, zCk_t, zis_ob, zget_set_eq, zget_set_ne, zAld_10, zAld_11, zAst_10, zAst_11, zAlen_10, zAlen_11, zbd_t, zbd_f, zb_t, zb_f, zset_set, s_one0, s_one1, zis_so, s_isStoneX, s_isSpotX]
  · rw [if_neg (fun q => c1 q.1)]
    refine XCl_p x (fun d K => ?_)
    simp (disch := omega) only [zen_97, e_97_0, e_97_1, e_97_4t, e_97_4f, e_97_7, e_97_8, e_97_9, e_97_12t, e_97_12f, e_97_15, e_97_17, e_97_18, e_97_20, e_97_21, e_97_23, e_97_26t, e_97_26f, e_97_29, e_97_31, e_97_32, e_97_33, e_97_36, e_97_37, e_97_38, e_97_39, e_97_40, e_97_42, e_97_45, e_97_46, e_97_47, e_97_50, e_97_51, e_97_52, e_97_53, e_97_54, e_97_57, zgf_8_0, zPa_some, zPn_some, zRK_some, zRK_none, zCk_t, zis_ob, zget_set_eq, zget_set_ne, zAld_10, zAld_11, zAst_10, zAst_11, zAlen_10, zAlen_11, zbd_t, zbd_f, zb_t, zb_f, zset_set, s_one0, s_one1, zis_so, s_isStoneX, s_isSpotX]
theorem m_chisel (x : MI c v F C G R D M) (ri : RI v G R D) (k r a y : Int) (h : -2147483648 ≤ k ∧ k < 2147483648 ∧ -2147483648 ≤ r ∧ r < 2147483648 ∧ -2147483648 ≤ a ∧ a < 2147483648 ∧ -2147483648 ≤ y ∧ y < 2147483648) : MCl c 6 158 [.ref c, .int (zi k), .int (zi r), .int (zi a), .int (zi y)] (.int (zi (oChisel G k r a y).1)) v F C (oChisel G k r a y).2 R D M := by
  unfold oChisel
  by_cases c1 : (0 ≤ k ∧ k ≤ 3) ∧ (0 ≤ r ∧ r ≤ 7) ∧ 0 ≤ a ∧ a ≤ 23
  · rw [if_pos c1]
    by_cases c4 : 0 ≤ y ∧ y ≤ 60
    · rw [if_pos c4]
      have e : 192 * k + 24 * r + a % 24 = 192 * k + (r * 24 + a % 24) := by omega
      have hg := ri.2.1 (192 * k + (r * 24 + a % 24)) (by omega) (by omega)
      obtain ⟨w, ha, h0, h1, h2, h3, ⟨A4, h4⟩, h5, h6, h7, h8, h9, h10, h11, h12, h13, h14, ⟨A15, h15⟩, ⟨A16, h16⟩, ⟨A17, h17⟩, A18, h18⟩ := x
      have eu : ∀ z, zu G (192 * k + (r * 24 + a % 24)) z (192 * k + (r * 24 + a % 24)) = z := fun z => if_pos rfl
      by_cases q : y < G (192 * k + (r * 24 + a % 24))
      · refine ⟨_, fun d K => ?_, ⟨w, ha, (zget_set_ne (by omega)).trans h0, (zget_set_ne (by omega)).trans h1, zget_set_eq, (zget_set_ne (by omega)).trans h3, ⟨A4, (zget_set_ne (by omega)).trans h4⟩, (zget_set_ne (by omega)).trans h5, (zget_set_ne (by omega)).trans h6, (zget_set_ne (by omega)).trans h7, (zget_set_ne (by omega)).trans h8, (zget_set_ne (by omega)).trans h9, (zget_set_ne (by omega)).trans h10, (zget_set_ne (by omega)).trans h11, (zget_set_ne (by omega)).trans h12, (zget_set_ne (by omega)).trans h13, (zget_set_ne (by omega)).trans h14, ⟨A15, (zget_set_ne (by omega)).trans h15⟩, ⟨A16, (zget_set_ne (by omega)).trans h16⟩, ⟨A17, (zget_set_ne (by omega)).trans h17⟩, A18, (zget_set_ne (by omega)).trans h18⟩, zFr_set (by omega)⟩
        rw [show min y (G (192 * k + (r * 24 + a % 24))) = y by omega]
        simp (disch := omega) only [zgm_0, zgm_1, zgm_2, zgm_3, zgm_4, zgm_5, zgm_6, zgm_7, zgm_8, zgm_9, zgm_10, zgm_11, zgm_12, zgm_13, zgm_14, zgm_15, zgm_16, zgm_17, zgm_18, zgm_19, zgm_20, zgm_21, zgm_22, zgm_23, zgm_24, zgm_25, zgm_26, zgm_27, zgm_28, zgm_29, zgm_30, zgm_31, zgm_32, zgm_33, zgm_34, zgm_35, zgm_36, zgm_37, zpm_4, zpm_5, zpm_6, zpm_7, zpm_8, zpm_9, zpm_10, zpm_11, zpm_12, zpm_13, zpm_14, zpm_15, zpm_16, zpm_17, zpm_18, zpm_22, zpm_23, zpm_31, zpm_32, zpm_36, zis_mo, zuN_eq, zuN_ne, zen_158, e_158_0, e_158_1, e_158_2, e_158_3, e_158_6t, e_158_6f, e_158_9, e_158_11, e_158_12, e_158_14, e_158_15, e_158_16, e_158_19, e_158_22t, e_158_22f, e_158_25, e_158_27, e_158_28, e_158_29, e_158_30, e_158_31, e_158_34, e_158_36, e_158_37, e_158_40, e_158_42, e_158_43, e_158_46, e_158_48, e_158_49, e_158_51t, e_158_51f, e_158_54, e_158_55, e_158_58, e_158_60, e_158_61, e_158_63, e_158_64, e_158_67, e_158_68, e_158_69, e_158_70, e_158_73, e_158_75, e_158_76, zPa_some, zPn_some, zRK_some, zRK_none, zCk_t, zis_ob, zget_set_eq, zget_set_ne, zAld_10, zAld_11, zAst_10, zAst_11, zAlen_10, zAlen_11, zbd_t, zbd_f, zb_t, zb_f, zset_set, s_one0, s_one1, zis_so, h0, h2, s_isSpotM, s_in, s_at, e, eu]
      · refine ⟨_, fun d K => ?_, ⟨w, ha, (zget_set_ne (by omega)).trans h0, (zget_set_ne (by omega)).trans h1, zget_set_eq, (zget_set_ne (by omega)).trans h3, ⟨A4, (zget_set_ne (by omega)).trans h4⟩, (zget_set_ne (by omega)).trans h5, (zget_set_ne (by omega)).trans h6, (zget_set_ne (by omega)).trans h7, (zget_set_ne (by omega)).trans h8, (zget_set_ne (by omega)).trans h9, (zget_set_ne (by omega)).trans h10, (zget_set_ne (by omega)).trans h11, (zget_set_ne (by omega)).trans h12, (zget_set_ne (by omega)).trans h13, (zget_set_ne (by omega)).trans h14, ⟨A15, (zget_set_ne (by omega)).trans h15⟩, ⟨A16, (zget_set_ne (by omega)).trans h16⟩, ⟨A17, (zget_set_ne (by omega)).trans h17⟩, A18, (zget_set_ne (by omega)).trans h18⟩, zFr_set (by omega)⟩
        rw [show G (192 * k + (r * 24 + a % 24)) - min y (G (192 * k + (r * 24 + a % 24))) = 0 by omega]
        simp (disch := omega) only [zgm_0, zgm_1, zgm_2, zgm_3, zgm_4, zgm_5, zgm_6, zgm_7, zgm_8, zgm_9, zgm_10, zgm_11, zgm_12, zgm_13, zgm_14, zgm_15, zgm_16, zgm_17, zgm_18, zgm_19, zgm_20, zgm_21, zgm_22, zgm_23, zgm_24, zgm_25, zgm_26, zgm_27, zgm_28, zgm_29, zgm_30, zgm_31, zgm_32, zgm_33, zgm_34, zgm_35, zgm_36, zgm_37, zpm_4, zpm_5, zpm_6, zpm_7, zpm_8, zpm_9, zpm_10, zpm_11, zpm_12, zpm_13, zpm_14, zpm_15, zpm_16, zpm_17, zpm_18, zpm_22, zpm_23, zpm_31, zpm_32, zpm_36, zis_mo, zuN_eq, zuN_ne, zen_158, e_158_0, e_158_1, e_158_2, e_158_3, e_158_6t, e_158_6f, e_158_9, e_158_11, e_158_12, e_158_14, e_158_15, e_158_16, e_158_19, e_158_22t, e_158_22f, e_158_25, e_158_27, e_158_28, e_158_29, e_158_30, e_158_31, e_158_34, e_158_36, e_158_37, e_158_40, e_158_42, e_158_43, e_158_46, e_158_48, e_158_49, e_158_51t, e_158_51f, e_158_54, e_158_55, e_158_58, e_158_60, e_158_61, e_158_63, e_158_64, e_158_67, e_158_68, e_158_69, e_158_70, e_158_73, e_158_75, e_158_76, zPa_some, zPn_some, zRK_some, zRK_none, zCk_t, zis_ob, zget_set_eq, zget_set_ne, zAld_10, zAld_11, zAst_10, zAst_11, zAlen_10, zAlen_11, zbd_t, zbd_f, zb_t, zb_f, zset_set, s_one0, s_one1, zis_so, h0, h2, s_isSpotM, s_in, s_at, e, eu]
    · rw [if_neg c4]
      refine MCl_p x (fun d K => ?_)
      simp (disch := omega) only [zgm_0, zgm_1, zgm_2, zgm_3, zgm_4, zgm_5, zgm_6, zgm_7, zgm_8, zgm_9, zgm_10, zgm_11, zgm_12, zgm_13, zgm_14, zgm_15, zgm_16, zgm_17, zgm_18, zgm_19, zgm_20, zgm_21, zgm_22, zgm_23, zgm_24, zgm_25, zgm_26, zgm_27, zgm_28, zgm_29, zgm_30, zgm_31, zgm_32, zgm_33, zgm_34, zgm_35, zgm_36, zgm_37, zpm_4, zpm_5, zpm_6, zpm_7, zpm_8, zpm_9, zpm_10, zpm_11, zpm_12, zpm_13, zpm_14, zpm_15, zpm_16, zpm_17, zpm_18, zpm_22, zpm_23, zpm_31, zpm_32, zpm_36, zis_mo, zuN_eq, zuN_ne, zen_158, e_158_0, e_158_1, e_158_2, e_158_3, e_158_6t, e_158_6f, e_158_9, e_158_11, e_158_12, e_158_14, e_158_15, e_158_16, e_158_19, e_158_22t, e_158_22f, e_158_25, e_158_27, e_158_28, e_158_29, e_158_30, e_158_31, e_158_34, e_158_36, e_158_37, e_158_40, e_158_42, e_158_43, e_158_46, e_158_48, e_158_49, e_158_51t, e_158_51f, e_158_54, e_158_55, e_158_58, e_158_60, e_158_61, e_158_63, e_158_64, e_158_67, e_158_68, e_158_69, e_158_70, e_158_73, e_158_75, e_158_76, zPa_some, zPn_some, zRK_some, zRK_none, zCk_t, zis_ob, zget_set_eq, zget_set_ne, zAld_10, zAld_11, zAst_10, zAst_11, zAlen_10, zAlen_11, zbd_t, zbd_f, zb_t, zb_f, zset_set, s_one0, s_one1, zis_so, s_isSpotM, s_in]
  · rw [if_neg c1]
    refine MCl_p x (fun d K => ?_)
    simp (disch := omega) only [zgm_0, zgm_1, zgm_2, zgm_3, zgm_4, zgm_5, zgm_6, zgm_7, zgm_8, zgm_9, zgm_10, zgm_11, zgm_12, zgm_13, zgm_14, zgm_15, zgm_16, zgm_17, zgm_18, zgm_19, zgm_20, zgm_21, zgm_22, zgm_23, zgm_24, zgm_25, zgm_26, zgm_27, zgm_28, zgm_29, zgm_30, zgm_31, zgm_32, zgm_33, zgm_34, zgm_35, zgm_36, zgm_37, zpm_4, zpm_5, zpm_6, zpm_7, zpm_8, zpm_9, zpm_10, zpm_11, zpm_12, zpm_13, zpm_14, zpm_15, zpm_16, zpm_17, zpm_18, zpm_22, zpm_23, zpm_31, zpm_32, zpm_36, zis_mo, zuN_eq, zuN_ne, zen_158, e_158_0, e_158_1, e_158_2, e_158_3, e_158_6t, e_158_6f, e_158_9, e_158_11, e_158_12, e_158_14, e_158_15, e_158_16, e_158_19, e_158_22t, e_158_22f, e_158_25, e_158_27, e_158_28, e_158_29, e_158_30, e_158_31, e_158_34, e_158_36, e_158_37, e_158_40, e_158_42, e_158_43, e_158_46, e_158_48, e_158_49, e_158_51t, e_158_51f, e_158_54, e_158_55, e_158_58, e_158_60, e_158_61, e_158_63, e_158_64, e_158_67, e_158_68, e_158_69, e_158_70, e_158_73, e_158_75, e_158_76, zPa_some, zPn_some, zRK_some, zRK_none, zCk_t, zis_ob, zget_set_eq, zget_set_ne, zAld_10, zAld_11, zAst_10, zAst_11, zAlen_10, zAlen_11, zbd_t, zbd_f, zb_t, zb_f, zset_set, s_one0, s_one1, zis_so, s_isSpotM]
def oCrack (C : Int → Bool) (k r a : Int) (y : Bool) : Int × (Int → Bool) := if (0 ≤ k ∧ k ≤ 3) ∧ (0 ≤ r ∧ r ≤ 7) ∧ 0 ≤ a ∧ a ≤ 23 then (zb (C (192 * k + (r * 24 + a % 24))), fun j => if j = 192 * k + (r * 24 + a % 24) then y else C j) else (-101, C)
theorem x_crack (x : XI b v F C G R D M) (k r a : Int) (y : Bool) (h : -2147483648 ≤ k ∧ k < 2147483648 ∧ -2147483648 ≤ r ∧ r < 2147483648 ∧ -2147483648 ≤ a ∧ a < 2147483648) : XCl b 6 98 [.ref b, .int (zi k), .int (zi r), .int (zi a), .int (zi (zb y))] (.int (zi (oCrack C k r a y).1)) v F (oCrack C k r a y).2 G R D M := by
  unfold oCrack
  by_cases c1 : 0 ≤ k ∧ k ≤ 3
  · by_cases c2 : 0 ≤ r ∧ r ≤ 7
    · by_cases c3 : 0 ≤ a ∧ a ≤ 23
      · rw [if_pos ⟨c1, c2, c3⟩]
        obtain ⟨x1, x2, x3, x4, x5, x6, x7, x8⟩ := x
        obtain ⟨q1, q2, q3, q4, -⟩ := x2 k c1.1 c1.2
        have hz := zst_rng (b := b) c1
        have f1 := zFr_set (lo := zst b k + 2) (n := 1) (a := zst b k + 2) (M := M) (x := zAb 192 (fun j => if j = r * 24 + a % 24 then y else sh k C j)) (by omega)
        refine ⟨_, fun d K => ?_, ⟨XO_fr x1 f1 (by omega), XS_upC x2 c1 ?_ ?_, XH_fr x3 f1 (by omega), XG_fr x4 f1 (by omega), XT_fr x5 f1 (by omega), XR_fr x6 f1 (by omega), XM_fr x7 f1 (by omega), XP_fr x8 f1 (by omega)⟩, zFr_mono f1 (by omega)⟩
        · have h0 := x1.1
          have h1 := x1.2.1
          simp (disch := omega) only [zen_98, e_98_0, e_98_1, e_98_4t, e_98_4f, e_98_7, e_98_8, e_98_9, e_98_12t, e_98_12f, e_98_15, e_98_17, e_98_18, e_98_19, e_98_22, e_98_23, e_98_24, e_98_25, e_98_26, e_98_29, e_98_31, e_98_32, e_98_35, e_98_36, e_98_37, e_98_38, e_98_39, e_98_41, e_98_44, e_98_46, e_98_49, zgf_8_0, zPa_some, zPn_some, zRK_some, zRK_none, zCk_t, zis_ob, zget_set_eq, zget_set_ne, zAld_10, zAld_11, zAst_10, zAst_11, zAlen_10, zAlen_11, zbd_t, zbd_f, zb_t, zb_f, zset_set, s_one0, s_one1, zis_so, h0, h1, q1, s_isStoneX, s_isSpotX, zAld_st, s_isCracked q1 q3, s_setCrack q1 q3, s_oneIf]
          rfl
        · intro j h1 h2
          dsimp only
          by_cases e : j = r * 24 + a % 24
          · rw [if_pos e, if_pos (by omega)]
          · rw [if_neg e, if_neg (by omega)]
            rfl
        · intro s h1 h2 h3
          exact if_neg (by omega)
      · rw [if_neg (fun q => c3 q.2.2)]
        refine XCl_p x (fun d K => ?_)
        simp (disch := omega) only [zen_98, e_98_0, e_98_1, e_98_4t, e_98_4f, e_98_7, e_98_8, e_98_9, e_98_12t, e_98_12f, e_98_15, e_98_17, e_98_18, e_98_19, e_98_22, e_98_23, e_98_24, e_98_25, e_98_26, e_98_29, e_98_31, e_98_32, e_98_35, e_98_36, e_98_37, e_98_38, e_98_39, e_98_41, e_98_44, e_98_46, e_98_49, zgf_8_0, zPa_some, zPn_some, zRK_some, zRK_none, zCk_t, zis_ob, zget_set_eq, zget_set_ne, zAld_10, zAld_11, zAst_10, zAst_11, zAlen_10, zAlen_11, zbd_t, zbd_f, zb_t, zb_f, zset_set, s_one0, s_one1, zis_so, s_isStoneX, s_isSpotX]
    · rw [if_neg (fun q => c2 q.2.1)]
      refine XCl_p x (fun d K => ?_)
      simp (disch := omega) only [zen_98, e_98_0, e_98_1, e_98_4t, e_98_4f, e_98_7, e_98_8, e_98_9, e_98_12t, e_98_12f, e_98_15, e_98_17, e_98_18, e_98_19, e_98_22, e_98_23, e_98_24, e_98_25, e_98_26, e_98_29, e_98_31, e_98_32, e_98_35, e_98_36, e_98_37, e_98_38, e_98_39, e_98_41, e_98_44, e_98_46, e_98_49, zgf_8_0, zPa_some, zPn_some, zRK_some, zRK_none, zCk_t, zis_ob, zget_set_eq, zget_set_ne, zAld_10, zAld_11, zAst_10, zAst_11, zAlen_10, zAlen_11, zbd_t, zbd_f, zb_t, zb_f, zset_set, s_one0, s_one1, zis_so, s_isStoneX, s_isSpotX]
  · rw [if_neg (fun q => c1 q.1)]
    refine XCl_p x (fun d K => ?_)
    simp (disch := omega) only [zen_98, e_98_0, e_98_1, e_98_4t, e_98_4f, e_98_7, e_98_8, e_98_9, e_98_12t, e_98_12f, e_98_15, e_98_17, e_98_18, e_98_19, e_98_22, e_98_23, e_98_24, e_98_25, e_98_26, e_98_29, e_98_31, e_98_32, e_98_35, e_98_36, e_98_37, e_98_38, e_98_39, e_98_41, e_98_44, e_98_46, e_98_49, zgf_8_0, zPa_some, zPn_some, zRK_some, zRK_none, zCk_t, zis_ob, zget_set_eq, zget_set_ne, zAld_10, zAld_11, zAst_10, zAst_11, zAlen_10, zAlen_11, zbd_t, zbd_f, zb_t, zb_f, zset_set, s_one0, s_one1, zis_so, s_isStoneX, s_isSpotX]
theorem m_crack (x : MI c v F C G R D M) (k r a : Int) (y : Bool) (h : -2147483648 ≤ k ∧ k < 2147483648 ∧ -2147483648 ≤ r ∧ r < 2147483648 ∧ -2147483648 ≤ a ∧ a < 2147483648) : MCl c 6 159 [.ref c, .int (zi k), .int (zi r), .int (zi a), .int (zi (zb y))] (.int (zi (oCrack C k r a y).1)) v F (oCrack C k r a y).2 G R D M := by
  unfold oCrack
  by_cases c1 : (0 ≤ k ∧ k ≤ 3) ∧ (0 ≤ r ∧ r ≤ 7) ∧ 0 ≤ a ∧ a ≤ 23
  · rw [if_pos c1]
    have e : 192 * k + 24 * r + a % 24 = 192 * k + (r * 24 + a % 24) := by omega
    obtain ⟨w, ha, h0, h1, h2, h3, ⟨A4, h4⟩, h5, h6, h7, h8, h9, h10, h11, h12, h13, h14, ⟨A15, h15⟩, ⟨A16, h16⟩, ⟨A17, h17⟩, A18, h18⟩ := x
    refine ⟨_, fun d K => ?_, ⟨w, ha, (zget_set_ne (by omega)).trans h0, (zget_set_ne (by omega)).trans h1, (zget_set_ne (by omega)).trans h2, zget_set_eq, ⟨A4, (zget_set_ne (by omega)).trans h4⟩, (zget_set_ne (by omega)).trans h5, (zget_set_ne (by omega)).trans h6, (zget_set_ne (by omega)).trans h7, (zget_set_ne (by omega)).trans h8, (zget_set_ne (by omega)).trans h9, (zget_set_ne (by omega)).trans h10, (zget_set_ne (by omega)).trans h11, (zget_set_ne (by omega)).trans h12, (zget_set_ne (by omega)).trans h13, (zget_set_ne (by omega)).trans h14, ⟨A15, (zget_set_ne (by omega)).trans h15⟩, ⟨A16, (zget_set_ne (by omega)).trans h16⟩, ⟨A17, (zget_set_ne (by omega)).trans h17⟩, A18, (zget_set_ne (by omega)).trans h18⟩, zFr_set (by omega)⟩
    cases f : C (192 * k + (r * 24 + a % 24)) with
    | true => simp (disch := omega) only [zgm_0, zgm_1, zgm_2, zgm_3, zgm_4, zgm_5, zgm_6, zgm_7, zgm_8, zgm_9, zgm_10, zgm_11, zgm_12, zgm_13, zgm_14, zgm_15, zgm_16, zgm_17, zgm_18, zgm_19, zgm_20, zgm_21, zgm_22, zgm_23, zgm_24, zgm_25, zgm_26, zgm_27, zgm_28, zgm_29, zgm_30, zgm_31, zgm_32, zgm_33, zgm_34, zgm_35, zgm_36, zgm_37, zpm_4, zpm_5, zpm_6, zpm_7, zpm_8, zpm_9, zpm_10, zpm_11, zpm_12, zpm_13, zpm_14, zpm_15, zpm_16, zpm_17, zpm_18, zpm_22, zpm_23, zpm_31, zpm_32, zpm_36, zis_mo, zuN_eq, zuN_ne, zen_159, e_159_0, e_159_1, e_159_2, e_159_3, e_159_6t, e_159_6f, e_159_9, e_159_11, e_159_12, e_159_13, e_159_16, e_159_17, e_159_18, e_159_19, e_159_22, e_159_23t, e_159_23f, e_159_26, e_159_27, e_159_30, e_159_31, e_159_33, e_159_34, e_159_37, e_159_38, e_159_39, e_159_40, e_159_43, e_159_45, e_159_46, e_159_48, zPa_some, zPn_some, zRK_some, zRK_none, zCk_t, zis_ob, zget_set_eq, zget_set_ne, zAld_10, zAld_11, zAst_10, zAst_11, zAlen_10, zAlen_11, zbd_t, zbd_f, zb_t, zb_f, zset_set, s_one0, s_one1, zis_so, h0, h3, s_isSpotM, s_at, e, f, zAld_b, zAst_b]
    | false => simp (disch := omega) only [zgm_0, zgm_1, zgm_2, zgm_3, zgm_4, zgm_5, zgm_6, zgm_7, zgm_8, zgm_9, zgm_10, zgm_11, zgm_12, zgm_13, zgm_14, zgm_15, zgm_16, zgm_17, zgm_18, zgm_19, zgm_20, zgm_21, zgm_22, zgm_23, zgm_24, zgm_25, zgm_26, zgm_27, zgm_28, zgm_29, zgm_30, zgm_31, zgm_32, zgm_33, zgm_34, zgm_35, zgm_36, zgm_37, zpm_4, zpm_5, zpm_6, zpm_7, zpm_8, zpm_9, zpm_10, zpm_11, zpm_12, zpm_13, zpm_14, zpm_15, zpm_16, zpm_17, zpm_18, zpm_22, zpm_23, zpm_31, zpm_32, zpm_36, zis_mo, zuN_eq, zuN_ne, zen_159, e_159_0, e_159_1, e_159_2, e_159_3, e_159_6t, e_159_6f, e_159_9, e_159_11, e_159_12, e_159_13, e_159_16, e_159_17, e_159_18, e_159_19, e_159_22, e_159_23t, e_159_23f, e_159_26, e_159_27, e_159_30, e_159_31, e_159_33, e_159_34, e_159_37, e_159_38, e_159_39, e_159_40, e_159_43, e_159_45, e_159_46, e_159_48, zPa_some, zPn_some, zRK_some, zRK_none, zCk_t, zis_ob, zget_set_eq, zget_set_ne, zAld_10, zAld_11, zAst_10, zAst_11, zAlen_10, zAlen_11, zbd_t, zbd_f, zb_t, zb_f, zset_set, s_one0, s_one1, zis_so, h0, h3, s_isSpotM, s_at, e, f, zAld_b, zAst_b]
  · rw [if_neg c1]
    refine MCl_p x (fun d K => ?_)
    simp (disch := omega) only [zgm_0, zgm_1, zgm_2, zgm_3, zgm_4, zgm_5, zgm_6, zgm_7, zgm_8, zgm_9, zgm_10, zgm_11, zgm_12, zgm_13, zgm_14, zgm_15, zgm_16, zgm_17, zgm_18, zgm_19, zgm_20, zgm_21, zgm_22, zgm_23, zgm_24, zgm_25, zgm_26, zgm_27, zgm_28, zgm_29, zgm_30, zgm_31, zgm_32, zgm_33, zgm_34, zgm_35, zgm_36, zgm_37, zpm_4, zpm_5, zpm_6, zpm_7, zpm_8, zpm_9, zpm_10, zpm_11, zpm_12, zpm_13, zpm_14, zpm_15, zpm_16, zpm_17, zpm_18, zpm_22, zpm_23, zpm_31, zpm_32, zpm_36, zis_mo, zuN_eq, zuN_ne, zen_159, e_159_0, e_159_1, e_159_2, e_159_3, e_159_6t, e_159_6f, e_159_9, e_159_11, e_159_12, e_159_13, e_159_16, e_159_17, e_159_18, e_159_19, e_159_22, e_159_23t, e_159_23f, e_159_26, e_159_27, e_159_30, e_159_31, e_159_33, e_159_34, e_159_37, e_159_38, e_159_39, e_159_40, e_159_43, e_159_45, e_159_46, e_159_48, zPa_some, zPn_some, zRK_some, zRK_none, zCk_t, zis_ob, zget_set_eq, zget_set_ne, zAld_10, zAld_11, zAst_10, zAst_11, zAlen_10, zAlen_11, zbd_t, zbd_f, zb_t, zb_f, zset_set, s_one0, s_one1, zis_so, s_isSpotM]
def oStuff (G : Int → Int) (k : Int) : Int := if 0 ≤ k ∧ k ≤ 3 then zfor (f_sum (sh k G)) 192 0 0 else -101
theorem x_stuff (x : XI b v F C G R D M) (k : Int) (h : -2147483648 ≤ k ∧ k < 2147483648) : XCl b 6 101 [.ref b, .int (zi k)] (.int (zi (oStuff G k))) v F C G R D M := by
  refine XCl_p x (fun d K => ?_)
  have h0 := x.1.1
  have h1 := x.1.2.1
  unfold oStuff
  by_cases c1 : 0 ≤ k ∧ k ≤ 3
  · rw [if_pos c1]
    obtain ⟨q1, q2, q3, q4, -⟩ := x.2.1 k c1.1 c1.2
    simp (disch := omega) only [zen_101, e_101_0, e_101_1, e_101_4t, e_101_4f, e_101_7, e_101_8, e_101_11, e_101_12, e_101_13, e_101_16, e_101_19, e_101_21, zgf_8_0, zPa_some, zPn_some, zRK_some, zRK_none, zCk_t, zis_ob, zget_set_eq, zget_set_ne, zAld_10, zAld_11, zAst_10, zAst_11, zAlen_10, zAlen_11, zbd_t, zbd_f, zb_t, zb_f, zset_set, s_one0, s_one1, zis_so, h0, h1, q1, s_isStoneX, zAld_st, s_sumOfHeights q1 q4]
  · rw [if_neg c1]
    simp (disch := omega) only [zen_101, e_101_0, e_101_1, e_101_4t, e_101_4f, e_101_7, e_101_8, e_101_11, e_101_12, e_101_13, e_101_16, e_101_19, e_101_21, zgf_8_0, zPa_some, zPn_some, zRK_some, zRK_none, zCk_t, zis_ob, zget_set_eq, zget_set_ne, zAld_10, zAld_11, zAst_10, zAst_11, zAlen_10, zAlen_11, zbd_t, zbd_f, zb_t, zb_f, zset_set, s_one0, s_one1, zis_so, s_isStoneX]
theorem m_stuff (x : MI c v F C G R D M) (k : Int) (h : -2147483648 ≤ k ∧ k < 2147483648) : MCl c 6 162 [.ref c, .int (zi k)] (.int (zi (oStuff G k))) v F C G R D M := by
  refine MCl_p x (fun d K => ?_)
  obtain ⟨w, ha, h0, h1, h2, h3, -⟩ := x
  unfold oStuff
  by_cases c1 : 0 ≤ k ∧ k ≤ 3
  · rw [if_pos c1]
    exact s_stuffM h0 h2 (d + 3) k K c1
  · rw [if_neg c1]
    simp (disch := omega) only [zgm_0, zgm_1, zgm_2, zgm_3, zgm_4, zgm_5, zgm_6, zgm_7, zgm_8, zgm_9, zgm_10, zgm_11, zgm_12, zgm_13, zgm_14, zgm_15, zgm_16, zgm_17, zgm_18, zgm_19, zgm_20, zgm_21, zgm_22, zgm_23, zgm_24, zgm_25, zgm_26, zgm_27, zgm_28, zgm_29, zgm_30, zgm_31, zgm_32, zgm_33, zgm_34, zgm_35, zgm_36, zgm_37, zpm_4, zpm_5, zpm_6, zpm_7, zpm_8, zpm_9, zpm_10, zpm_11, zpm_12, zpm_13, zpm_14, zpm_15, zpm_16, zpm_17, zpm_18, zpm_22, zpm_23, zpm_31, zpm_32, zpm_36, zis_mo, zuN_eq, zuN_ne, zen_162, e_162_0, e_162_1, e_162_4t, e_162_4f, e_162_7, e_162_9, e_162_10, e_162_11, e_162_12, e_162_13, e_162_14, e_162_15, e_162_18t, e_162_18f, e_162_21, e_162_22, e_162_23, e_162_26, e_162_29, e_162_30, e_162_31, e_162_32, e_162_33, e_162_34, e_162_35, e_162_36, e_162_39, e_162_42, e_162_43, zPa_some, zPn_some, zRK_some, zRK_none, zCk_t, zis_ob, zget_set_eq, zget_set_ne, zAld_10, zAld_11, zAst_10, zAst_11, zAlen_10, zAlen_11, zbd_t, zbd_f, zb_t, zb_f, zset_set, s_one0, s_one1, zis_so, s_isStoneM]
/-- the two least lands -/
theorem f_least_min {F : Int → Bool} {G : Int → Int} {a : Int} : ∀ (n : Nat) (i t : Int), zfor (f_least F G) n i (min a t) = min a (zfor (f_least F G) n i t) := by
  intro n
  induction n with
  | zero => intro i t; rfl
  | succ n ih =>
    intro i t
    rw [zfor_s, zfor_s, ← ih]
    congr 1
    unfold f_least
    split
    · rfl
    · omega
theorem f_least_mono {F : Int → Bool} {G : Int → Int} : ∀ (n : Nat) (i t : Int), zfor (f_least F G) n i t ≤ t := by
  intro n
  induction n with
  | zero => intro i t; exact Int.le_refl _
  | succ n ih =>
    intro i t
    rw [zfor_s]
    refine Int.le_trans (ih _ _) ?_
    unfold f_least
    split <;> omega
theorem f_least_le {F : Int → Bool} {G : Int → Int} : ∀ (n : Nat) (i t s : Int), i ≤ s → s < i + n → F s = false → zfor (f_least F G) n i t ≤ G s := by
  intro n
  induction n with
  | zero => intro i t s h1 h2; omega
  | succ n ih =>
    intro i t s h1 h2 h4
    rw [zfor_s]
    by_cases hs : s = i
    · subst hs
      refine Int.le_trans (f_least_mono _ _ _) ?_
      unfold f_least
      rw [h4, if_neg (by decide)]
      omega
    · exact ih _ _ _ (by omega) (by omega) h4
theorem f_least_two {F : Int → Bool} {G : Int → Int} (rG : ∀ j, 0 ≤ j → j < 192 → 0 ≤ G j ∧ G j ≤ 60) {s : Int} (h0 : 0 ≤ s) (h1 : s < 192) (h4 : F s = false) : zfor (f_least F G) 192 0 1000 = zfor (f_least F G) 192 0 9999 := by
  have e := f_least_min (F := F) (G := G) (a := 1000) 192 0 9999
  have g := f_least_le (F := F) (G := G) 192 0 9999 s h0 (by omega) h4
  have r := rG s h0 h1
  rw [show min (1000 : Int) 9999 = 1000 by decide] at e
  omega
theorem f_cla_two {F : Int → Bool} {G : Int → Int} (rG : ∀ j, 0 ≤ j → j < 192 → 0 ≤ G j ∧ G j ≤ 60) {q : Int} : zfor (f_cla F G (zfor (f_least F G) 192 0 1000 + q)) 192 0 0 = zfor (f_cla F G (zfor (f_least F G) 192 0 9999 + q)) 192 0 0 := by
  refine zfor_congr 192 0 0 (fun s t h1 h2 => ?_)
  unfold f_cla
  cases h4 : F s with
  | false => rw [f_least_two rG h1 (by omega) h4]
  | true => simp
theorem f_sla_two {F : Int → Bool} {G : Int → Int} (rG : ∀ j, 0 ≤ j → j < 192 → 0 ≤ G j ∧ G j ≤ 60) {q : Int} : zfor (f_sla F G (zfor (f_least F G) 192 0 1000 + q)) 192 0 0 = zfor (f_sla F G (zfor (f_least F G) 192 0 9999 + q)) 192 0 0 := by
  refine zfor_congr 192 0 0 (fun s t h1 h2 => ?_)
  unfold f_sla
  cases h4 : F s with
  | false => rw [f_least_two rG h1 (by omega) h4]
  | true => simp
def zLl (F : Int → Bool) (G : Int → Int) (k : Int) : Int := zfor (f_least (sh k F) (sh k G)) 192 0 9999
def oHigh (F : Int → Bool) (G : Int → Int) (k q u : Int) : Int := if 0 ≤ k ∧ k ≤ 3 then (if (0 ≤ q ∧ q ≤ 60) ∧ 0 ≤ u ∧ u ≤ 1 then (if u = 0 then zfor (f_cla (sh k F) (sh k G) (zLl F G k + q)) 192 0 0 else zfor (f_sla (sh k F) (sh k G) (zLl F G k + q)) 192 0 0) else -102) else -101
theorem x_high (x : XI b v F C G R D M) (ri : RI v G R D) (k q u : Int) (h : -2147483648 ≤ k ∧ k < 2147483648 ∧ -2147483648 ≤ q ∧ q < 2147483648 ∧ -2147483648 ≤ u ∧ u < 2147483648) : XCl b 6 115 [.ref b, .int (zi k), .int (zi q), .int (zi u)] (.int (zi (oHigh F G k q u))) v F C G R D M := by
  refine XCl_p x (fun d K => ?_)
  have h0 := x.1.1
  have h1 := x.1.2.1
  unfold oHigh zLl
  by_cases c1 : 0 ≤ k ∧ k ≤ 3
  · rw [if_pos c1]
    by_cases c2 : 0 ≤ q ∧ q ≤ 60
    · by_cases c3 : 0 ≤ u ∧ u ≤ 1
      · rw [if_pos ⟨c2, c3⟩]
        obtain ⟨q1, q2, q3, q4, -⟩ := x.2.1 k c1.1 c1.2
        have rg := RGh_sh ri.2.1 c1
        have rl := f_least_rng (F := sh k F) (G := sh k G) (n := 192) (i := 0) (t := 1000) (m := 1000) (fun j h1 h2 => rg j h1 (by omega)) (by omega)
        rw [← f_cla_two rg, ← f_sla_two rg]
        by_cases u0 : u = 0
        · rw [if_pos u0]
          simp (disch := omega) only [zen_115, e_115_0, e_115_1, e_115_4t, e_115_4f, e_115_7, e_115_9, e_115_10, e_115_11, e_115_12, e_115_14, e_115_17t, e_115_17f, e_115_20, e_115_21, e_115_22, e_115_23, e_115_26t, e_115_26f, e_115_29, e_115_31, e_115_32, e_115_33, e_115_36, e_115_37, e_115_38, e_115_41, e_115_42, e_115_43, e_115_45, e_115_46t, e_115_46f, e_115_49, e_115_50, e_115_53, e_115_54, e_115_55, e_115_57, e_115_60, e_115_63, e_115_64, e_115_67, e_115_68, e_115_69, e_115_71, e_115_74, zgf_8_0, zPa_some, zPn_some, zRK_some, zRK_none, zCk_t, zis_ob, zget_set_eq, zget_set_ne, zAld_10, zAld_11, zAst_10, zAst_11, zAlen_10, zAlen_11, zbd_t, zbd_f, zb_t, zb_f, zset_set, s_one0, s_one1, zis_so, h0, h1, q1, s_isStoneX, s_isWithin, zAld_st, s_leastLand q1 q2 q4 rg, s_countLandAbove q1 q2 q4 rg]
        · rw [if_neg u0]
          simp (disch := omega) only [zen_115, e_115_0, e_115_1, e_115_4t, e_115_4f, e_115_7, e_115_9, e_115_10, e_115_11, e_115_12, e_115_14, e_115_17t, e_115_17f, e_115_20, e_115_21, e_115_22, e_115_23, e_115_26t, e_115_26f, e_115_29, e_115_31, e_115_32, e_115_33, e_115_36, e_115_37, e_115_38, e_115_41, e_115_42, e_115_43, e_115_45, e_115_46t, e_115_46f, e_115_49, e_115_50, e_115_53, e_115_54, e_115_55, e_115_57, e_115_60, e_115_63, e_115_64, e_115_67, e_115_68, e_115_69, e_115_71, e_115_74, zgf_8_0, zPa_some, zPn_some, zRK_some, zRK_none, zCk_t, zis_ob, zget_set_eq, zget_set_ne, zAld_10, zAld_11, zAst_10, zAst_11, zAlen_10, zAlen_11, zbd_t, zbd_f, zb_t, zb_f, zset_set, s_one0, s_one1, zis_so, h0, h1, q1, s_isStoneX, s_isWithin, zAld_st, s_leastLand q1 q2 q4 rg, s_sumLandAbove q1 q2 q4 rg]
      · rw [if_neg (fun z => c3 z.2)]
        simp (disch := omega) only [zen_115, e_115_0, e_115_1, e_115_4t, e_115_4f, e_115_7, e_115_9, e_115_10, e_115_11, e_115_12, e_115_14, e_115_17t, e_115_17f, e_115_20, e_115_21, e_115_22, e_115_23, e_115_26t, e_115_26f, e_115_29, e_115_31, e_115_32, e_115_33, e_115_36, e_115_37, e_115_38, e_115_41, e_115_42, e_115_43, e_115_45, e_115_46t, e_115_46f, e_115_49, e_115_50, e_115_53, e_115_54, e_115_55, e_115_57, e_115_60, e_115_63, e_115_64, e_115_67, e_115_68, e_115_69, e_115_71, e_115_74, zgf_8_0, zPa_some, zPn_some, zRK_some, zRK_none, zCk_t, zis_ob, zget_set_eq, zget_set_ne, zAld_10, zAld_11, zAst_10, zAst_11, zAlen_10, zAlen_11, zbd_t, zbd_f, zb_t, zb_f, zset_set, s_one0, s_one1, zis_so, s_isStoneX, s_isWithin]
    · rw [if_neg (fun z => c2 z.1)]
      simp (disch := omega) only [zen_115, e_115_0, e_115_1, e_115_4t, e_115_4f, e_115_7, e_115_9, e_115_10, e_115_11, e_115_12, e_115_14, e_115_17t, e_115_17f, e_115_20, e_115_21, e_115_22, e_115_23, e_115_26t, e_115_26f, e_115_29, e_115_31, e_115_32, e_115_33, e_115_36, e_115_37, e_115_38, e_115_41, e_115_42, e_115_43, e_115_45, e_115_46t, e_115_46f, e_115_49, e_115_50, e_115_53, e_115_54, e_115_55, e_115_57, e_115_60, e_115_63, e_115_64, e_115_67, e_115_68, e_115_69, e_115_71, e_115_74, zgf_8_0, zPa_some, zPn_some, zRK_some, zRK_none, zCk_t, zis_ob, zget_set_eq, zget_set_ne, zAld_10, zAld_11, zAst_10, zAst_11, zAlen_10, zAlen_11, zbd_t, zbd_f, zb_t, zb_f, zset_set, s_one0, s_one1, zis_so, s_isStoneX, s_isWithin]
  · rw [if_neg c1]
    simp (disch := omega) only [zen_115, e_115_0, e_115_1, e_115_4t, e_115_4f, e_115_7, e_115_9, e_115_10, e_115_11, e_115_12, e_115_14, e_115_17t, e_115_17f, e_115_20, e_115_21, e_115_22, e_115_23, e_115_26t, e_115_26f, e_115_29, e_115_31, e_115_32, e_115_33, e_115_36, e_115_37, e_115_38, e_115_41, e_115_42, e_115_43, e_115_45, e_115_46t, e_115_46f, e_115_49, e_115_50, e_115_53, e_115_54, e_115_55, e_115_57, e_115_60, e_115_63, e_115_64, e_115_67, e_115_68, e_115_69, e_115_71, e_115_74, zgf_8_0, zPa_some, zPn_some, zRK_some, zRK_none, zCk_t, zis_ob, zget_set_eq, zget_set_ne, zAld_10, zAld_11, zAst_10, zAst_11, zAlen_10, zAlen_11, zbd_t, zbd_f, zb_t, zb_f, zset_set, s_one0, s_one1, zis_so, s_isStoneX]
theorem m_high (x : MI c v F C G R D M) (ri : RI v G R D) (k q u : Int) (h : -2147483648 ≤ k ∧ k < 2147483648 ∧ -2147483648 ≤ q ∧ q < 2147483648 ∧ -2147483648 ≤ u ∧ u < 2147483648) : MCl c 6 188 [.ref c, .int (zi k), .int (zi q), .int (zi u)] (.int (zi (oHigh F G k q u))) v F C G R D M := by
  refine MCl_p x (fun d K => ?_)
  obtain ⟨w, ha, h0, h1, h2, h3, -⟩ := x
  unfold oHigh zLl
  by_cases c1 : 0 ≤ k ∧ k ≤ 3
  · rw [if_pos c1]
    by_cases c2 : 0 ≤ q ∧ q ≤ 60
    · by_cases c3 : 0 ≤ u ∧ u ≤ 1
      · rw [if_pos ⟨c2, c3⟩]
        exact s_highM h0 h1 h2 ri.2.1 (d + 3) k q u K (by omega)
      · rw [if_neg (fun z => c3 z.2)]
        simp (disch := omega) only [zgm_0, zgm_1, zgm_2, zgm_3, zgm_4, zgm_5, zgm_6, zgm_7, zgm_8, zgm_9, zgm_10, zgm_11, zgm_12, zgm_13, zgm_14, zgm_15, zgm_16, zgm_17, zgm_18, zgm_19, zgm_20, zgm_21, zgm_22, zgm_23, zgm_24, zgm_25, zgm_26, zgm_27, zgm_28, zgm_29, zgm_30, zgm_31, zgm_32, zgm_33, zgm_34, zgm_35, zgm_36, zgm_37, zpm_4, zpm_5, zpm_6, zpm_7, zpm_8, zpm_9, zpm_10, zpm_11, zpm_12, zpm_13, zpm_14, zpm_15, zpm_16, zpm_17, zpm_18, zpm_22, zpm_23, zpm_31, zpm_32, zpm_36, zis_mo, zuN_eq, zuN_ne, zen_188, e_188_0, e_188_1, e_188_4t, e_188_4f, e_188_7, e_188_9, e_188_10, e_188_11, e_188_12, e_188_13, e_188_16, e_188_19t, e_188_19f, e_188_22, e_188_23, e_188_24, e_188_25, e_188_26, e_188_29t, e_188_29f, e_188_32, e_188_34, e_188_35, e_188_36, e_188_37, e_188_40, e_188_41, e_188_42, e_188_44, e_188_45, e_188_47, e_188_48, e_188_50, e_188_51, e_188_53, e_188_55, e_188_58t, e_188_58f, e_188_61, e_188_62, e_188_65, e_188_68, e_188_69, e_188_70, e_188_72, e_188_73, e_188_74t, e_188_74f, e_188_77, e_188_78, e_188_81, e_188_82, e_188_85, e_188_88, e_188_89, e_188_90, e_188_92, e_188_93, e_188_94, e_188_96, e_188_97, e_188_99, e_188_101, e_188_103t, e_188_103f, e_188_106, e_188_107, e_188_110, e_188_111, e_188_112, e_188_114, e_188_116, e_188_118t, e_188_118f, e_188_121, e_188_123, e_188_126, e_188_127, e_188_128, e_188_130, e_188_133, e_188_136, e_188_137t, e_188_137f, e_188_140, e_188_142, e_188_145, e_188_147, zPa_some, zPn_some, zRK_some, zRK_none, zCk_t, zis_ob, zget_set_eq, zget_set_ne, zAld_10, zAld_11, zAst_10, zAst_11, zAlen_10, zAlen_11, zbd_t, zbd_f, zb_t, zb_f, zset_set, s_one0, s_one1, zis_so, s_isStoneM, s_in]
    · rw [if_neg (fun z => c2 z.1)]
      simp (disch := omega) only [zgm_0, zgm_1, zgm_2, zgm_3, zgm_4, zgm_5, zgm_6, zgm_7, zgm_8, zgm_9, zgm_10, zgm_11, zgm_12, zgm_13, zgm_14, zgm_15, zgm_16, zgm_17, zgm_18, zgm_19, zgm_20, zgm_21, zgm_22, zgm_23, zgm_24, zgm_25, zgm_26, zgm_27, zgm_28, zgm_29, zgm_30, zgm_31, zgm_32, zgm_33, zgm_34, zgm_35, zgm_36, zgm_37, zpm_4, zpm_5, zpm_6, zpm_7, zpm_8, zpm_9, zpm_10, zpm_11, zpm_12, zpm_13, zpm_14, zpm_15, zpm_16, zpm_17, zpm_18, zpm_22, zpm_23, zpm_31, zpm_32, zpm_36, zis_mo, zuN_eq, zuN_ne, zen_188, e_188_0, e_188_1, e_188_4t, e_188_4f, e_188_7, e_188_9, e_188_10, e_188_11, e_188_12, e_188_13, e_188_16, e_188_19t, e_188_19f, e_188_22, e_188_23, e_188_24, e_188_25, e_188_26, e_188_29t, e_188_29f, e_188_32, e_188_34, e_188_35, e_188_36, e_188_37, e_188_40, e_188_41, e_188_42, e_188_44, e_188_45, e_188_47, e_188_48, e_188_50, e_188_51, e_188_53, e_188_55, e_188_58t, e_188_58f, e_188_61, e_188_62, e_188_65, e_188_68, e_188_69, e_188_70, e_188_72, e_188_73, e_188_74t, e_188_74f, e_188_77, e_188_78, e_188_81, e_188_82, e_188_85, e_188_88, e_188_89, e_188_90, e_188_92, e_188_93, e_188_94, e_188_96, e_188_97, e_188_99, e_188_101, e_188_103t, e_188_103f, e_188_106, e_188_107, e_188_110, e_188_111, e_188_112, e_188_114, e_188_116, e_188_118t, e_188_118f, e_188_121, e_188_123, e_188_126, e_188_127, e_188_128, e_188_130, e_188_133, e_188_136, e_188_137t, e_188_137f, e_188_140, e_188_142, e_188_145, e_188_147, zPa_some, zPn_some, zRK_some, zRK_none, zCk_t, zis_ob, zget_set_eq, zget_set_ne, zAld_10, zAld_11, zAst_10, zAst_11, zAlen_10, zAlen_11, zbd_t, zbd_f, zb_t, zb_f, zset_set, s_one0, s_one1, zis_so, s_isStoneM, s_in]
  · rw [if_neg c1]
    simp (disch := omega) only [zgm_0, zgm_1, zgm_2, zgm_3, zgm_4, zgm_5, zgm_6, zgm_7, zgm_8, zgm_9, zgm_10, zgm_11, zgm_12, zgm_13, zgm_14, zgm_15, zgm_16, zgm_17, zgm_18, zgm_19, zgm_20, zgm_21, zgm_22, zgm_23, zgm_24, zgm_25, zgm_26, zgm_27, zgm_28, zgm_29, zgm_30, zgm_31, zgm_32, zgm_33, zgm_34, zgm_35, zgm_36, zgm_37, zpm_4, zpm_5, zpm_6, zpm_7, zpm_8, zpm_9, zpm_10, zpm_11, zpm_12, zpm_13, zpm_14, zpm_15, zpm_16, zpm_17, zpm_18, zpm_22, zpm_23, zpm_31, zpm_32, zpm_36, zis_mo, zuN_eq, zuN_ne, zen_188, e_188_0, e_188_1, e_188_4t, e_188_4f, e_188_7, e_188_9, e_188_10, e_188_11, e_188_12, e_188_13, e_188_16, e_188_19t, e_188_19f, e_188_22, e_188_23, e_188_24, e_188_25, e_188_26, e_188_29t, e_188_29f, e_188_32, e_188_34, e_188_35, e_188_36, e_188_37, e_188_40, e_188_41, e_188_42, e_188_44, e_188_45, e_188_47, e_188_48, e_188_50, e_188_51, e_188_53, e_188_55, e_188_58t, e_188_58f, e_188_61, e_188_62, e_188_65, e_188_68, e_188_69, e_188_70, e_188_72, e_188_73, e_188_74t, e_188_74f, e_188_77, e_188_78, e_188_81, e_188_82, e_188_85, e_188_88, e_188_89, e_188_90, e_188_92, e_188_93, e_188_94, e_188_96, e_188_97, e_188_99, e_188_101, e_188_103t, e_188_103f, e_188_106, e_188_107, e_188_110, e_188_111, e_188_112, e_188_114, e_188_116, e_188_118t, e_188_118f, e_188_121, e_188_123, e_188_126, e_188_127, e_188_128, e_188_130, e_188_133, e_188_136, e_188_137t, e_188_137f, e_188_140, e_188_142, e_188_145, e_188_147, zPa_some, zPn_some, zRK_some, zRK_none, zCk_t, zis_ob, zget_set_eq, zget_set_ne, zAld_10, zAld_11, zAst_10, zAst_11, zAlen_10, zAlen_11, zbd_t, zbd_f, zb_t, zb_f, zset_set, s_one0, s_one1, zis_so, s_isStoneM]
def oLevel (F : Int → Bool) (G : Int → Int) (k q : Int) : Int × (Int → Int) := if 0 ≤ k ∧ k ≤ 3 then (if 0 ≤ q ∧ q ≤ 60 then (zfor (f_cla (sh k F) (sh k G) (zLl F G k + q)) 192 0 0, gcutM F G k (zLl F G k + q) 0) else (-102, G)) else (-101, G)
theorem zLl_rng (ri : RGh G) {k : Int} (hk : 0 ≤ k ∧ k ≤ 3) : 0 ≤ zLl F G k ∧ zLl F G k ≤ 9999 := f_least_rng (F := sh k F) (G := sh k G) (n := 192) (i := 0) (t := 9999) (m := 9999) (fun j h1 h2 => ri _ (by omega) (by omega)) (by omega)
theorem RI_level (ri : RI v G R D) (k q : Int) : RI v (oLevel F G k q).2 R D := by
  unfold oLevel
  split
  · split
    · obtain ⟨r1, r2, r3⟩ := ri
      refine ⟨r1, fun j h1 h2 => ?_, r3⟩
      have q1 := r2 j h1 h2
      have q2 := zLl_rng (F := F) r2 (k := k) (by omega)
      dsimp only
      unfold gcutM
      split
      · rename_i hh
        have := hh.2.2.2
        omega
      · exact q1
    · exact ri
  · exact ri
theorem x_level (x : XI b v F C G R D M) (ri : RI v G R D) (k q : Int) (h : -2147483648 ≤ k ∧ k < 2147483648 ∧ -2147483648 ≤ q ∧ q < 2147483648) : XCl b 6 116 [.ref b, .int (zi k), .int (zi q)] (.int (zi (oLevel F G k q).1)) v F C (oLevel F G k q).2 R D M := by
  unfold oLevel
  by_cases c1 : 0 ≤ k ∧ k ≤ 3
  · rw [if_pos c1]
    by_cases c2 : 0 ≤ q ∧ q ≤ 60
    · rw [if_pos c2]
      obtain ⟨x1, x2, x3, x4, x5, x6, x7, x8⟩ := x
      obtain ⟨q1, q2, q3, q4, -⟩ := x2 k c1.1 c1.2
      have hz := zst_rng (b := b) c1
      have rg := RGh_sh ri.2.1 c1
      have rl := f_least_rng (F := sh k F) (G := sh k G) (n := 192) (i := 0) (t := 1000) (m := 1000) (fun j h1 h2 => rg j h1 (by omega)) (by omega)
      have f1 := zFr_set (lo := zst b k + 3) (n := 1) (a := zst b k + 3) (M := M) (x := zA 10 192 (gcut (sh k F) (sh k G) (zfor (f_least (sh k F) (sh k G)) 192 0 1000 + q) 0)) (by omega)
      refine ⟨_, fun d K => ?_, ⟨XO_fr x1 f1 (by omega), XS_upG x2 c1 ?_ ?_, XH_fr x3 f1 (by omega), XG_fr x4 f1 (by omega), XT_fr x5 f1 (by omega), XR_fr x6 f1 (by omega), XM_fr x7 f1 (by omega), XP_fr x8 f1 (by omega)⟩, zFr_mono f1 (by omega)⟩
      · have h0 := x1.1
        have h1 := x1.2.1
        unfold zLl
        rw [← f_cla_two rg]
        simp (disch := omega) only [zen_116, e_116_0, e_116_1, e_116_4t, e_116_4f, e_116_7, e_116_9, e_116_10, e_116_11, e_116_12, e_116_14, e_116_17t, e_116_17f, e_116_20, e_116_22, e_116_23, e_116_24, e_116_27, e_116_28, e_116_29, e_116_32, e_116_33, e_116_34, e_116_35, e_116_36, e_116_39, e_116_40, e_116_41, e_116_42, e_116_45, e_116_47, e_116_48, e_116_51, e_116_52, e_116_53, e_116_54, e_116_57, e_116_59, zgf_8_0, zPa_some, zPn_some, zRK_some, zRK_none, zCk_t, zis_ob, zget_set_eq, zget_set_ne, zAld_10, zAld_11, zAst_10, zAst_11, zAlen_10, zAlen_11, zbd_t, zbd_f, zb_t, zb_f, zset_set, s_one0, s_one1, zis_so, h0, h1, q1, s_isStoneX, s_isWithin, zAld_st, s_leastLand q1 q2 q4 rg, s_countLandAbove q1 q2 q4 rg, s_cutLandTo (by omega) q1 q2 q4 rg]
      · intro j h1 h2
        dsimp only
        unfold gcut gcutM zLl
        cases h4 : sh k F j with
        | true => rw [if_neg (fun z => by cases z.2.2.1), if_neg (fun z => by have := z.2.2.1; unfold sh at h4; rw [h4] at this; cases this)]; rfl
        | false =>
          rw [f_least_two rg h1 h2 h4]
          have h5 : F (192 * k + j) = false := h4
          by_cases h6 : zfor (f_least (sh k F) (sh k G)) 192 0 9999 + q < sh k G j
          · rw [if_pos ⟨h1, h2, rfl, h6⟩, if_pos ⟨by omega, by omega, h5, h6⟩]
          · rw [if_neg (fun z => h6 z.2.2.2), if_neg (fun z => h6 z.2.2.2)]
            rfl
      · intro s h1 h2 h3
        exact if_neg (fun z => by omega)
    · rw [if_neg c2]
      refine XCl_p x (fun d K => ?_)
      simp (disch := omega) only [zen_116, e_116_0, e_116_1, e_116_4t, e_116_4f, e_116_7, e_116_9, e_116_10, e_116_11, e_116_12, e_116_14, e_116_17t, e_116_17f, e_116_20, e_116_22, e_116_23, e_116_24, e_116_27, e_116_28, e_116_29, e_116_32, e_116_33, e_116_34, e_116_35, e_116_36, e_116_39, e_116_40, e_116_41, e_116_42, e_116_45, e_116_47, e_116_48, e_116_51, e_116_52, e_116_53, e_116_54, e_116_57, e_116_59, zgf_8_0, zPa_some, zPn_some, zRK_some, zRK_none, zCk_t, zis_ob, zget_set_eq, zget_set_ne, zAld_10, zAld_11, zAst_10, zAst_11, zAlen_10, zAlen_11, zbd_t, zbd_f, zb_t, zb_f, zset_set, s_one0, s_one1, zis_so, s_isStoneX, s_isWithin]
  · rw [if_neg c1]
    refine XCl_p x (fun d K => ?_)
    simp (disch := omega) only [zen_116, e_116_0, e_116_1, e_116_4t, e_116_4f, e_116_7, e_116_9, e_116_10, e_116_11, e_116_12, e_116_14, e_116_17t, e_116_17f, e_116_20, e_116_22, e_116_23, e_116_24, e_116_27, e_116_28, e_116_29, e_116_32, e_116_33, e_116_34, e_116_35, e_116_36, e_116_39, e_116_40, e_116_41, e_116_42, e_116_45, e_116_47, e_116_48, e_116_51, e_116_52, e_116_53, e_116_54, e_116_57, e_116_59, zgf_8_0, zPa_some, zPn_some, zRK_some, zRK_none, zCk_t, zis_ob, zget_set_eq, zget_set_ne, zAld_10, zAld_11, zAst_10, zAst_11, zAlen_10, zAlen_11, zbd_t, zbd_f, zb_t, zb_f, zset_set, s_one0, s_one1, zis_so, s_isStoneX]
theorem m_level (x : MI c v F C G R D M) (ri : RI v G R D) (k q : Int) (h : -2147483648 ≤ k ∧ k < 2147483648 ∧ -2147483648 ≤ q ∧ q < 2147483648) : MCl c 6 189 [.ref c, .int (zi k), .int (zi q)] (.int (zi (oLevel F G k q).1)) v F C (oLevel F G k q).2 R D M := by
  unfold oLevel zLl
  by_cases c1 : 0 ≤ k ∧ k ≤ 3
  · rw [if_pos c1]
    by_cases c2 : 0 ≤ q ∧ q ≤ 60
    · rw [if_pos c2]
      obtain ⟨w, ha, h0, h1, h2, h3, ⟨A4, h4⟩, h5, h6, h7, h8, h9, h10, h11, h12, h13, h14, ⟨A15, h15⟩, ⟨A16, h16⟩, ⟨A17, h17⟩, A18, h18⟩ := x
      exact ⟨_, fun d K => s_levelM h0 h1 h2 ri.2.1 (d + 3) k q K (by omega), ⟨w, ha, (zget_set_ne (by omega)).trans h0, (zget_set_ne (by omega)).trans h1, zget_set_eq, (zget_set_ne (by omega)).trans h3, ⟨A4, (zget_set_ne (by omega)).trans h4⟩, (zget_set_ne (by omega)).trans h5, (zget_set_ne (by omega)).trans h6, (zget_set_ne (by omega)).trans h7, (zget_set_ne (by omega)).trans h8, (zget_set_ne (by omega)).trans h9, (zget_set_ne (by omega)).trans h10, (zget_set_ne (by omega)).trans h11, (zget_set_ne (by omega)).trans h12, (zget_set_ne (by omega)).trans h13, (zget_set_ne (by omega)).trans h14, ⟨A15, (zget_set_ne (by omega)).trans h15⟩, ⟨A16, (zget_set_ne (by omega)).trans h16⟩, ⟨A17, (zget_set_ne (by omega)).trans h17⟩, A18, (zget_set_ne (by omega)).trans h18⟩, zFr_set (by omega)⟩
    · rw [if_neg c2]
      refine MCl_p x (fun d K => ?_)
      simp (disch := omega) only [zgm_0, zgm_1, zgm_2, zgm_3, zgm_4, zgm_5, zgm_6, zgm_7, zgm_8, zgm_9, zgm_10, zgm_11, zgm_12, zgm_13, zgm_14, zgm_15, zgm_16, zgm_17, zgm_18, zgm_19, zgm_20, zgm_21, zgm_22, zgm_23, zgm_24, zgm_25, zgm_26, zgm_27, zgm_28, zgm_29, zgm_30, zgm_31, zgm_32, zgm_33, zgm_34, zgm_35, zgm_36, zgm_37, zpm_4, zpm_5, zpm_6, zpm_7, zpm_8, zpm_9, zpm_10, zpm_11, zpm_12, zpm_13, zpm_14, zpm_15, zpm_16, zpm_17, zpm_18, zpm_22, zpm_23, zpm_31, zpm_32, zpm_36, zis_mo, zuN_eq, zuN_ne, zen_189, e_189_0, e_189_1, e_189_4t, e_189_4f, e_189_7, e_189_9, e_189_10, e_189_11, e_189_12, e_189_13, e_189_16, e_189_19t, e_189_19f, e_189_22, e_189_24, e_189_25, e_189_26, e_189_27, e_189_30, e_189_31, e_189_32, e_189_33, e_189_34, e_189_36, e_189_37, e_189_39, e_189_41, e_189_44t, e_189_44f, e_189_47, e_189_48, e_189_51, e_189_54, e_189_55, e_189_56, e_189_58, e_189_59, e_189_60t, e_189_60f, e_189_63, e_189_64, e_189_67, e_189_70, e_189_71, e_189_72, e_189_74, e_189_75, e_189_76, e_189_77t, e_189_77f, e_189_80, e_189_81, e_189_84, e_189_87, e_189_88, e_189_89, e_189_91, e_189_92, e_189_93, e_189_94, e_189_97, e_189_100, e_189_103, e_189_105, zPa_some, zPn_some, zRK_some, zRK_none, zCk_t, zis_ob, zget_set_eq, zget_set_ne, zAld_10, zAld_11, zAst_10, zAst_11, zAlen_10, zAlen_11, zbd_t, zbd_f, zb_t, zb_f, zset_set, s_one0, s_one1, zis_so, s_isStoneM, s_in]
  · rw [if_neg c1]
    refine MCl_p x (fun d K => ?_)
    simp (disch := omega) only [zgm_0, zgm_1, zgm_2, zgm_3, zgm_4, zgm_5, zgm_6, zgm_7, zgm_8, zgm_9, zgm_10, zgm_11, zgm_12, zgm_13, zgm_14, zgm_15, zgm_16, zgm_17, zgm_18, zgm_19, zgm_20, zgm_21, zgm_22, zgm_23, zgm_24, zgm_25, zgm_26, zgm_27, zgm_28, zgm_29, zgm_30, zgm_31, zgm_32, zgm_33, zgm_34, zgm_35, zgm_36, zgm_37, zpm_4, zpm_5, zpm_6, zpm_7, zpm_8, zpm_9, zpm_10, zpm_11, zpm_12, zpm_13, zpm_14, zpm_15, zpm_16, zpm_17, zpm_18, zpm_22, zpm_23, zpm_31, zpm_32, zpm_36, zis_mo, zuN_eq, zuN_ne, zen_189, e_189_0, e_189_1, e_189_4t, e_189_4f, e_189_7, e_189_9, e_189_10, e_189_11, e_189_12, e_189_13, e_189_16, e_189_19t, e_189_19f, e_189_22, e_189_24, e_189_25, e_189_26, e_189_27, e_189_30, e_189_31, e_189_32, e_189_33, e_189_34, e_189_36, e_189_37, e_189_39, e_189_41, e_189_44t, e_189_44f, e_189_47, e_189_48, e_189_51, e_189_54, e_189_55, e_189_56, e_189_58, e_189_59, e_189_60t, e_189_60f, e_189_63, e_189_64, e_189_67, e_189_70, e_189_71, e_189_72, e_189_74, e_189_75, e_189_76, e_189_77t, e_189_77f, e_189_80, e_189_81, e_189_84, e_189_87, e_189_88, e_189_89, e_189_91, e_189_92, e_189_93, e_189_94, e_189_97, e_189_100, e_189_103, e_189_105, zPa_some, zPn_some, zRK_some, zRK_none, zCk_t, zis_ob, zget_set_eq, zget_set_ne, zAld_10, zAld_11, zAst_10, zAst_11, zAlen_10, zAlen_11, zbd_t, zbd_f, zb_t, zb_f, zset_set, s_one0, s_one1, zis_so, s_isStoneM]
end PUB3
