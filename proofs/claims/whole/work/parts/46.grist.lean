/-! the calls: grain, grist -/
theorem tvS_rng {F1 F2 : Int → Bool} {g : Int → Int → Int → Int} (hg : ∀ r s t, 0 ≤ r → r ≤ 7 → 1 ≤ g r s t) : ∀ (n : Nat) (r s t z c w e : Int), (0 ≤ r ∧ r ≤ 8 ∧ 0 ≤ s ∧ s ≤ 23 ∧ 1 ≤ z ∧ z ≤ 100) → (0 ≤ (tvS F1 F2 g n r s t z c w e).1 ∧ (tvS F1 F2 g n r s t z c w e).1 ≤ 8) ∧ (1 ≤ (tvS F1 F2 g n r s t z c w e).2.2.1 ∧ (tvS F1 F2 g n r s t z c w e).2.2.1 ≤ 100) := by
  intro n
  induction n with
  | zero =>
    intro r s t z c w e h
    exact ⟨⟨h.1, h.2.1⟩, h.2.2.2.2⟩
  | succ n ih =>
    intro r s t z c w e h
    by_cases q : r < 8
    · rw [tvS_t q]
      have rb := btS_rng (F1 := F1) (F2 := F2) (g := g) (r := r) (s := s) (t := t) (z := z) (c := c) (w := w) (by omega) (hg r s t (by omega) (by omega))
      exact ih _ _ _ _ _ _ _ (by omega)
    · rw [tvS_f q]
      exact ⟨⟨h.1, h.2.1⟩, h.2.2.2.2⟩
/-- the way of a grain: ring, sector, size, cuts, warmth, beats -/
def wy (v : Nat → Int) (F : Int → Bool) (a t z : Int) : Int × Int × Int × Int × Int × Int := tvS (sh (v 4) F) (sh (v 5) F) (wgp v) 300 0 a t z 0 0 0
theorem wy_rng {v : Nat → Int} {F : Int → Bool} (g : wRv v) {a t z : Int} (h : 0 ≤ a ∧ a ≤ 23 ∧ 1 ≤ z ∧ z ≤ 100) : (0 ≤ (wy v F a t z).1 ∧ (wy v F a t z).1 ≤ 8) ∧ (1 ≤ (wy v F a t z).2.2.1 ∧ (wy v F a t z).2.2.1 ≤ 100) := tvS_rng (fun r s t h1 h2 => (wgp_rng g (by omega)).1) 300 0 a t z 0 0 0 (by omega)
def tell (P : Int × Int × Int × Int × Int × Int) (u : Int) : Int := if u = 0 then (if P.1 = 8 then 1 else 0) else if u = 1 then P.2.2.1 else if u = 2 then P.2.2.2.1 else if u = 3 then P.2.2.2.2.1 else if u = 4 then P.2.2.2.2.2 else if u = 5 then P.1 else P.2.1
def oGrain (v : Nat → Int) (F : Int → Bool) (a t z u : Int) : Int := if (0 ≤ a ∧ a ≤ 23) ∧ 0 ≤ t ∧ t ≤ 23 then (if (1 ≤ z ∧ z ≤ 100) ∧ 0 ≤ u ∧ u ≤ 6 then tell (wy v F a t z) u else -102) else -101
def gCP (P : Int × Int × Int × Int × Int × Int) (t : Int) : zE := zOb 1 [.int (zi P.1), .int (zi P.2.1), .int (zi t), .int (zi P.2.2.1), .int (zi P.2.2.2.1), .int (zi P.2.2.2.2.1), .int (zi P.2.2.2.2.2)]
section GRP
variable {b c : Nat} {v w : Nat → Int} {F C D : Int → Bool} {G : Int → Int} {R : Nat → Int → Int} {M : zM}
theorem s_tell {p : Nat} {P : Int × Int × Int × Int × Int × Int} {t : Int} (h : zget M p = some (gCP P t)) (r : 0 ≤ P.1 ∧ P.1 ≤ 8) : ∀ (d : Nat) (u : Int) (K : zK), (0 ≤ u ∧ u ≤ 6) → zC (d + 3) 19 [.ref p, .int (zi u)] M K = K (some (.int (zi (tell P u)))) M := by
  intro d u K hu
  unfold gCP at h
  unfold tell
  by_cases u0 : u = 0
  · rw [if_pos u0]
    by_cases q : P.1 = 8
    · rw [if_pos q]
      simp (disch := omega) only [zen_19, e_19_0, e_19_1k0, e_19_1k1, e_19_1k2, e_19_1k3, e_19_1k4, e_19_1k5, e_19_1kd, e_19_40, e_19_41, e_19_44, e_19_47, e_19_48, e_19_49, e_19_52, e_19_53, e_19_54, e_19_57, e_19_58, e_19_59, e_19_62, e_19_63, e_19_64, e_19_67, e_19_68, e_19_69, e_19_72, e_19_73, e_19_74, e_19_77, zgf_1_0, zgf_1_1, zgf_1_3, zgf_1_4, zgf_1_5, zgf_1_6, zen_18, e_18_0, e_18_1, e_18_4, e_18_6t, e_18_6f, e_18_9, e_18_10, e_18_13, e_18_14, zPa_some, zPn_some, zRK_some, zRK_none, zCk_t, zis_ob, zget_set_eq, zget_set_ne, zAld_10, zAld_11, zAst_10, zAst_11, zAlen_10, zAlen_11, zbd_t, zbd_f, zb_t, zb_f, zset_set, s_one0, s_one1, zis_so, h]
    · rw [if_neg q]
      simp (disch := omega) only [zen_19, e_19_0, e_19_1k0, e_19_1k1, e_19_1k2, e_19_1k3, e_19_1k4, e_19_1k5, e_19_1kd, e_19_40, e_19_41, e_19_44, e_19_47, e_19_48, e_19_49, e_19_52, e_19_53, e_19_54, e_19_57, e_19_58, e_19_59, e_19_62, e_19_63, e_19_64, e_19_67, e_19_68, e_19_69, e_19_72, e_19_73, e_19_74, e_19_77, zgf_1_0, zgf_1_1, zgf_1_3, zgf_1_4, zgf_1_5, zgf_1_6, zen_18, e_18_0, e_18_1, e_18_4, e_18_6t, e_18_6f, e_18_9, e_18_10, e_18_13, e_18_14, zPa_some, zPn_some, zRK_some, zRK_none, zCk_t, zis_ob, zget_set_eq, zget_set_ne, zAld_10, zAld_11, zAst_10, zAst_11, zAlen_10, zAlen_11, zbd_t, zbd_f, zb_t, zb_f, zset_set, s_one0, s_one1, zis_so, h]
  · rw [if_neg u0]
    by_cases u1 : u = 1
    · rw [if_pos u1]
      simp (disch := omega) only [zen_19, e_19_0, e_19_1k0, e_19_1k1, e_19_1k2, e_19_1k3, e_19_1k4, e_19_1k5, e_19_1kd, e_19_40, e_19_41, e_19_44, e_19_47, e_19_48, e_19_49, e_19_52, e_19_53, e_19_54, e_19_57, e_19_58, e_19_59, e_19_62, e_19_63, e_19_64, e_19_67, e_19_68, e_19_69, e_19_72, e_19_73, e_19_74, e_19_77, zgf_1_0, zgf_1_1, zgf_1_3, zgf_1_4, zgf_1_5, zgf_1_6, zPa_some, zPn_some, zRK_some, zRK_none, zCk_t, zis_ob, zget_set_eq, zget_set_ne, zAld_10, zAld_11, zAst_10, zAst_11, zAlen_10, zAlen_11, zbd_t, zbd_f, zb_t, zb_f, zset_set, s_one0, s_one1, zis_so, h]
    · rw [if_neg u1]
      by_cases u2 : u = 2
      · rw [if_pos u2]
        simp (disch := omega) only [zen_19, e_19_0, e_19_1k0, e_19_1k1, e_19_1k2, e_19_1k3, e_19_1k4, e_19_1k5, e_19_1kd, e_19_40, e_19_41, e_19_44, e_19_47, e_19_48, e_19_49, e_19_52, e_19_53, e_19_54, e_19_57, e_19_58, e_19_59, e_19_62, e_19_63, e_19_64, e_19_67, e_19_68, e_19_69, e_19_72, e_19_73, e_19_74, e_19_77, zgf_1_0, zgf_1_1, zgf_1_3, zgf_1_4, zgf_1_5, zgf_1_6, zPa_some, zPn_some, zRK_some, zRK_none, zCk_t, zis_ob, zget_set_eq, zget_set_ne, zAld_10, zAld_11, zAst_10, zAst_11, zAlen_10, zAlen_11, zbd_t, zbd_f, zb_t, zb_f, zset_set, s_one0, s_one1, zis_so, h]
      · rw [if_neg u2]
        by_cases u3 : u = 3
        · rw [if_pos u3]
          simp (disch := omega) only [zen_19, e_19_0, e_19_1k0, e_19_1k1, e_19_1k2, e_19_1k3, e_19_1k4, e_19_1k5, e_19_1kd, e_19_40, e_19_41, e_19_44, e_19_47, e_19_48, e_19_49, e_19_52, e_19_53, e_19_54, e_19_57, e_19_58, e_19_59, e_19_62, e_19_63, e_19_64, e_19_67, e_19_68, e_19_69, e_19_72, e_19_73, e_19_74, e_19_77, zgf_1_0, zgf_1_1, zgf_1_3, zgf_1_4, zgf_1_5, zgf_1_6, zPa_some, zPn_some, zRK_some, zRK_none, zCk_t, zis_ob, zget_set_eq, zget_set_ne, zAld_10, zAld_11, zAst_10, zAst_11, zAlen_10, zAlen_11, zbd_t, zbd_f, zb_t, zb_f, zset_set, s_one0, s_one1, zis_so, h]
        · rw [if_neg u3]
          by_cases u4 : u = 4
          · rw [if_pos u4]
            simp (disch := omega) only [zen_19, e_19_0, e_19_1k0, e_19_1k1, e_19_1k2, e_19_1k3, e_19_1k4, e_19_1k5, e_19_1kd, e_19_40, e_19_41, e_19_44, e_19_47, e_19_48, e_19_49, e_19_52, e_19_53, e_19_54, e_19_57, e_19_58, e_19_59, e_19_62, e_19_63, e_19_64, e_19_67, e_19_68, e_19_69, e_19_72, e_19_73, e_19_74, e_19_77, zgf_1_0, zgf_1_1, zgf_1_3, zgf_1_4, zgf_1_5, zgf_1_6, zPa_some, zPn_some, zRK_some, zRK_none, zCk_t, zis_ob, zget_set_eq, zget_set_ne, zAld_10, zAld_11, zAst_10, zAst_11, zAlen_10, zAlen_11, zbd_t, zbd_f, zb_t, zb_f, zset_set, s_one0, s_one1, zis_so, h]
          · rw [if_neg u4]
            by_cases u5 : u = 5
            · rw [if_pos u5]
              simp (disch := omega) only [zen_19, e_19_0, e_19_1k0, e_19_1k1, e_19_1k2, e_19_1k3, e_19_1k4, e_19_1k5, e_19_1kd, e_19_40, e_19_41, e_19_44, e_19_47, e_19_48, e_19_49, e_19_52, e_19_53, e_19_54, e_19_57, e_19_58, e_19_59, e_19_62, e_19_63, e_19_64, e_19_67, e_19_68, e_19_69, e_19_72, e_19_73, e_19_74, e_19_77, zgf_1_0, zgf_1_1, zgf_1_3, zgf_1_4, zgf_1_5, zgf_1_6, zPa_some, zPn_some, zRK_some, zRK_none, zCk_t, zis_ob, zget_set_eq, zget_set_ne, zAld_10, zAld_11, zAst_10, zAst_11, zAlen_10, zAlen_11, zbd_t, zbd_f, zb_t, zb_f, zset_set, s_one0, s_one1, zis_so, h]
            · rw [if_neg u5]
              simp (disch := omega) only [zen_19, e_19_0, e_19_1k0, e_19_1k1, e_19_1k2, e_19_1k3, e_19_1k4, e_19_1k5, e_19_1kd, e_19_40, e_19_41, e_19_44, e_19_47, e_19_48, e_19_49, e_19_52, e_19_53, e_19_54, e_19_57, e_19_58, e_19_59, e_19_62, e_19_63, e_19_64, e_19_67, e_19_68, e_19_69, e_19_72, e_19_73, e_19_74, e_19_77, zgf_1_0, zgf_1_1, zgf_1_3, zgf_1_4, zgf_1_5, zgf_1_6, zPa_some, zPn_some, zRK_some, zRK_none, zCk_t, zis_ob, zget_set_eq, zget_set_ne, zAld_10, zAld_11, zAst_10, zAst_11, zAlen_10, zAlen_11, zbd_t, zbd_f, zb_t, zb_f, zset_set, s_one0, s_one1, zis_so, h]
def GXe (b : Nat) (v : Nat → Int) (F C : Int → Bool) (G : Int → Int) (M : zM) : Prop := ∃ r s t z c w e, GX b v F C G r s t z c w e M
theorem XI_GX (hS : SL M) (hA : M.1 < b ∨ b + 47 ≤ M.1) (x1 : XO b v M) (x2 : XS b F C G M) (x3 : XH b v M) (x4 : XG b M) : GXe b v F C G M := by
  obtain ⟨u, x4⟩ := x4
  exact ⟨u 0, u 1, u 2, u 3, u 4, u 5, u 6, x1, x2, x3, hS, x4, hA⟩
theorem zis_gCP {P : Int × Int × Int × Int × Int × Int} {t : Int} : zis (some (gCP P t)) 1 = true := rfl
theorem zis_gC {r s t z c w e : Int} : zis (some (gC r s t z c w e)) 1 = true := rfl
/-- a grain sent: the memory behind -/
theorem s_sent (x : GXe b v F C G M) (rv : RV v) (a t z : Int) (h : 0 ≤ a ∧ a ≤ 23 ∧ 0 ≤ t ∧ t ≤ 23 ∧ 1 ≤ z ∧ z ≤ 100) : ∃ M1 M2 t', (∀ (d : Nat) (K : zK), zC (d + 1) 12 [.ref (b + 3), .int (zi a), .int (zi t), .int (zi z)] M K = K none M1) ∧ (∀ (d : Nat) (K : zK), zC (d + 9) 13 [.ref (b + 3), .ref (b + 46), .ref (b + 2)] M1 K = K none M2) ∧ zget M2 (b + 3) = some (gCP (wy v F a t z) t') ∧ GXe b v F C G M2 ∧ zFr (b + 3) 1 M M1 ∧ zFr (b + 3) 1 M M2 ∧ zis (zget M1 (b + 3)) 1 = true := by
  obtain ⟨r, s, t0, z0, c0, w0, e0, x⟩ := x
  obtain ⟨t', e1, e2⟩ := s_travel x rv a t z h
  refine ⟨_, _, t', e1, e2, zget_set_eq, ⟨_, _, _, _, _, _, _, GX_set x⟩, zFr_set (by omega), zFr_set (by omega), ?_⟩
  rw [zget_set_eq]
  rfl
theorem x_grain (hS : SL M) (hA : M.1 < b ∨ b + 47 ≤ M.1) (x : XI b v F C G R D M) (ri : RI v G R D) (a t z u : Int) (h : (-2147483648 ≤ a ∧ a < 2147483648) ∧ (-2147483648 ≤ t ∧ t < 2147483648) ∧ (-2147483648 ≤ z ∧ z < 2147483648) ∧ -2147483648 ≤ u ∧ u < 2147483648) : XCl b 11 111 [.ref b, .int (zi a), .int (zi t), .int (zi z), .int (zi u)] (.int (zi (oGrain v F a t z u))) v F C G R D M := by
  unfold oGrain
  by_cases c1 : 0 ≤ a ∧ a ≤ 23
  · by_cases c2 : 0 ≤ t ∧ t ≤ 23
    · rw [if_pos ⟨c1, c2⟩]
      by_cases c3 : 1 ≤ z ∧ z ≤ 100
      · by_cases c4 : 0 ≤ u ∧ u ≤ 6
        · rw [if_pos ⟨c3, c4⟩]
          obtain ⟨x1, x2, x3, x4, x5, x6, x7, x8⟩ := x
          obtain ⟨M1, M2, t', e1, e2, e3, y, f1, f2, i1⟩ := s_sent (XI_GX hS hA x1 x2 x3 x4) ri.1 a t z (by omega)
          have rw' := wy_rng (F := F) (RV_w ri.1) (a := a) (t := t) (z := z) (by omega)
          refine ⟨M2, fun d K => ?_, ⟨XO_fr x1 f2 (by omega), XS_fr x2 f2 (by omega), XH_fr x3 f2 (by omega), ?_, XT_fr x5 f2 (by omega), XR_fr x6 f2 (by omega), XM_fr x7 f2 (by omega), XP_fr x8 f2 (by omega)⟩, zFr_mono f2 (by omega)⟩
          · have z0 := x1.1
            have z01 := (XO_fr x1 f1 (by omega)).1
            have z02 := (XO_fr x1 f2 (by omega)).1
            have z46 := (XO_fr x1 f1 (by omega)).2.2
            have z2 := XH_fr x3 f1 (by omega)
            unfold XH at z2
            have e4 := s_tell e3 rw'.1
            obtain ⟨u', x4⟩ := x4
            simp (disch := omega) only [zen_111, e_111_0, e_111_1, e_111_4t, e_111_4f, e_111_7, e_111_8, e_111_11t, e_111_11f, e_111_14, e_111_16, e_111_17, e_111_18, e_111_19, e_111_21, e_111_24t, e_111_24f, e_111_27, e_111_29, e_111_30, e_111_32, e_111_35t, e_111_35f, e_111_38, e_111_40, e_111_41, e_111_42, e_111_45, e_111_46, e_111_47, e_111_48, e_111_51, e_111_52, e_111_55, e_111_56, e_111_59, e_111_60, e_111_63, e_111_66, e_111_67, e_111_70, e_111_72, e_111_75, zgf_8_1, zgf_8_2, zgf_8_3, zPa_some, zPn_some, zRK_some, zRK_none, zCk_t, zis_ob, zget_set_eq, zget_set_ne, zAld_10, zAld_11, zAst_10, zAst_11, zAlen_10, zAlen_11, zbd_t, zbd_f, zb_t, zb_f, zset_set, s_one0, s_one1, zis_so, z0, z01, z02, z46, z2, x4, s_isSectorX, s_isWithin, e1, e2, e3, e4, i1, zis_gCP]
          · exact ⟨fun j => if j = 0 then (wy v F a t z).1 else if j = 1 then (wy v F a t z).2.1 else if j = 2 then t' else if j = 3 then (wy v F a t z).2.2.1 else if j = 4 then (wy v F a t z).2.2.2.1 else if j = 5 then (wy v F a t z).2.2.2.2.1 else (wy v F a t z).2.2.2.2.2, e3⟩
        · rw [if_neg (fun q => c4 q.2)]
          refine XCl_p x (fun d K => ?_)
          simp (disch := omega) only [zen_111, e_111_0, e_111_1, e_111_4t, e_111_4f, e_111_7, e_111_8, e_111_11t, e_111_11f, e_111_14, e_111_16, e_111_17, e_111_18, e_111_19, e_111_21, e_111_24t, e_111_24f, e_111_27, e_111_29, e_111_30, e_111_32, e_111_35t, e_111_35f, e_111_38, e_111_40, e_111_41, e_111_42, e_111_45, e_111_46, e_111_47, e_111_48, e_111_51, e_111_52, e_111_55, e_111_56, e_111_59, e_111_60, e_111_63, e_111_66, e_111_67, e_111_70, e_111_72, e_111_75, zgf_8_1, zgf_8_2, zgf_8_3, zPa_some, zPn_some, zRK_some, zRK_none, zCk_t, zis_ob, zget_set_eq, zget_set_ne, zAld_10, zAld_11, zAst_10, zAst_11, zAlen_10, zAlen_11, zbd_t, zbd_f, zb_t, zb_f, zset_set, s_one0, s_one1, zis_so, s_isSectorX, s_isWithin]
      · rw [if_neg (fun q => c3 q.1)]
        refine XCl_p x (fun d K => ?_)
        simp (disch := omega) only [zen_111, e_111_0, e_111_1, e_111_4t, e_111_4f, e_111_7, e_111_8, e_111_11t, e_111_11f, e_111_14, e_111_16, e_111_17, e_111_18, e_111_19, e_111_21, e_111_24t, e_111_24f, e_111_27, e_111_29, e_111_30, e_111_32, e_111_35t, e_111_35f, e_111_38, e_111_40, e_111_41, e_111_42, e_111_45, e_111_46, e_111_47, e_111_48, e_111_51, e_111_52, e_111_55, e_111_56, e_111_59, e_111_60, e_111_63, e_111_66, e_111_67, e_111_70, e_111_72, e_111_75, zgf_8_1, zgf_8_2, zgf_8_3, zPa_some, zPn_some, zRK_some, zRK_none, zCk_t, zis_ob, zget_set_eq, zget_set_ne, zAld_10, zAld_11, zAst_10, zAst_11, zAlen_10, zAlen_11, zbd_t, zbd_f, zb_t, zb_f, zset_set, s_one0, s_one1, zis_so, s_isSectorX, s_isWithin]
    · rw [if_neg (fun q => c2 q.2)]
      refine XCl_p x (fun d K => ?_)
      simp (disch := omega) only [zen_111, e_111_0, e_111_1, e_111_4t, e_111_4f, e_111_7, e_111_8, e_111_11t, e_111_11f, e_111_14, e_111_16, e_111_17, e_111_18, e_111_19, e_111_21, e_111_24t, e_111_24f, e_111_27, e_111_29, e_111_30, e_111_32, e_111_35t, e_111_35f, e_111_38, e_111_40, e_111_41, e_111_42, e_111_45, e_111_46, e_111_47, e_111_48, e_111_51, e_111_52, e_111_55, e_111_56, e_111_59, e_111_60, e_111_63, e_111_66, e_111_67, e_111_70, e_111_72, e_111_75, zgf_8_1, zgf_8_2, zgf_8_3, zPa_some, zPn_some, zRK_some, zRK_none, zCk_t, zis_ob, zget_set_eq, zget_set_ne, zAld_10, zAld_11, zAst_10, zAst_11, zAlen_10, zAlen_11, zbd_t, zbd_f, zb_t, zb_f, zset_set, s_one0, s_one1, zis_so, s_isSectorX]
  · rw [if_neg (fun q => c1 q.1)]
    refine XCl_p x (fun d K => ?_)
    simp (disch := omega) only [zen_111, e_111_0, e_111_1, e_111_4t, e_111_4f, e_111_7, e_111_8, e_111_11t, e_111_11f, e_111_14, e_111_16, e_111_17, e_111_18, e_111_19, e_111_21, e_111_24t, e_111_24f, e_111_27, e_111_29, e_111_30, e_111_32, e_111_35t, e_111_35f, e_111_38, e_111_40, e_111_41, e_111_42, e_111_45, e_111_46, e_111_47, e_111_48, e_111_51, e_111_52, e_111_55, e_111_56, e_111_59, e_111_60, e_111_63, e_111_66, e_111_67, e_111_70, e_111_72, e_111_75, zgf_8_1, zgf_8_2, zgf_8_3, zPa_some, zPn_some, zRK_some, zRK_none, zCk_t, zis_ob, zget_set_eq, zget_set_ne, zAld_10, zAld_11, zAst_10, zAst_11, zAlen_10, zAlen_11, zbd_t, zbd_f, zb_t, zb_f, zset_set, s_one0, s_one1, zis_so, s_isSectorX]
/-- the reference: w with a way's values -/
def wW (v : Nat → Int) (P : Int × Int × Int × Int × Int × Int) : Nat → Int := wS v P.1 P.2.1 P.2.2.1 P.2.2.2.1 P.2.2.2.2.1 P.2.2.2.2.2
theorem wW_ag {P : Int × Int × Int × Int × Int × Int} (ha : zAg w v) : zAg (wW w P) v := by
  intro j hj
  unfold wW
  rw [wS_lo (by omega)]
  exact ha j hj
theorem MI_GM (ha : zAg w v) (rv : RV v) (h0 : zget M c = some (zMo c w)) (h1 : zget M (c + 1) = some (zAb 768 F)) : GM c w F (w 10) (w 11) (w 12) (w 13) (w 14) (w 15) M := by
  have r := rv.1
  have a4 := ha 4 (by omega)
  have a5 := ha 5 (by omega)
  refine ⟨?_, h1, by omega, zAg_wR ha rv⟩
  rw [wS_self]
  exact h0
theorem s_sendM (ha : zAg w v) (rv : RV v) (h0 : zget M c = some (zMo c w)) (h1 : zget M (c + 1) = some (zAb 768 F)) : ∀ (d : Nat) (a t z1 : Int) (K : zK), (0 ≤ a ∧ a ≤ 23 ∧ 0 ≤ t ∧ t ≤ 23 ∧ 1 ≤ z1 ∧ z1 ≤ 100) → zC (d + 6) 180 [.ref c, .int (zi a), .int (zi t), .int (zi z1)] M K = K none (zset M c (zMo c (wW w (wy v F a t z1)))) := by
  intro d a t z1 K h
  have e := s_send (MI_GM ha rv h0 h1) d a t z1 K h
  rw [ha 4 (by omega), ha 5 (by omega), zAg_w ha] at e
  exact e
theorem m_grain (x : MI c v F C G R D M) (ri : RI v G R D) (a t z u : Int) (h : (-2147483648 ≤ a ∧ a < 2147483648) ∧ (-2147483648 ≤ t ∧ t < 2147483648) ∧ (-2147483648 ≤ z ∧ z < 2147483648) ∧ -2147483648 ≤ u ∧ u < 2147483648) : MCl c 11 181 [.ref c, .int (zi a), .int (zi t), .int (zi z), .int (zi u)] (.int (zi (oGrain v F a t z u))) v F C G R D M := by
  unfold oGrain
  by_cases c1 : 0 ≤ a ∧ a ≤ 23
  · by_cases c2 : 0 ≤ t ∧ t ≤ 23
    · rw [if_pos ⟨c1, c2⟩]
      by_cases c3 : 1 ≤ z ∧ z ≤ 100
      · by_cases c4 : 0 ≤ u ∧ u ≤ 6
        · rw [if_pos ⟨c3, c4⟩]
          obtain ⟨w, ha, h0, h1, h2, h3, ⟨A4, h4⟩, h5, h6, h7, h8, h9, h10, h11, h12, h13, h14, ⟨A15, h15⟩, ⟨A16, h16⟩, ⟨A17, h17⟩, A18, h18⟩ := x
          have e := s_sendM ha ri.1 h0 h1
          have rw' := wy_rng (F := F) (RV_w ri.1) (a := a) (t := t) (z := z) (by omega)
          refine ⟨_, fun d K => ?_, ⟨wW w (wy v F a t z), wW_ag ha, zget_set_eq, (zget_set_ne (by omega)).trans h1, (zget_set_ne (by omega)).trans h2, (zget_set_ne (by omega)).trans h3, ⟨A4, (zget_set_ne (by omega)).trans h4⟩, (zget_set_ne (by omega)).trans h5, (zget_set_ne (by omega)).trans h6, (zget_set_ne (by omega)).trans h7, (zget_set_ne (by omega)).trans h8, (zget_set_ne (by omega)).trans h9, (zget_set_ne (by omega)).trans h10, (zget_set_ne (by omega)).trans h11, (zget_set_ne (by omega)).trans h12, (zget_set_ne (by omega)).trans h13, (zget_set_ne (by omega)).trans h14, ⟨A15, (zget_set_ne (by omega)).trans h15⟩, ⟨A16, (zget_set_ne (by omega)).trans h16⟩, ⟨A17, (zget_set_ne (by omega)).trans h17⟩, A18, (zget_set_ne (by omega)).trans h18⟩, zFr_set (by omega)⟩
          unfold tell
          unfold wW at e ⊢
          by_cases u0 : u = 0
          · rw [if_pos u0]
            by_cases q : (wy v F a t z).1 = 8
            · rw [if_pos q]
              simp (disch := omega) only [zgm_0, zgm_1, zgm_2, zgm_3, zgm_4, zgm_5, zgm_6, zgm_7, zgm_8, zgm_9, zgm_10, zgm_11, zgm_12, zgm_13, zgm_14, zgm_15, zgm_16, zgm_17, zgm_18, zgm_19, zgm_20, zgm_21, zgm_22, zgm_23, zgm_24, zgm_25, zgm_26, zgm_27, zgm_28, zgm_29, zgm_30, zgm_31, zgm_32, zgm_33, zgm_34, zgm_35, zgm_36, zgm_37, zpm_4, zpm_5, zpm_6, zpm_7, zpm_8, zpm_9, zpm_10, zpm_11, zpm_12, zpm_13, zpm_14, zpm_15, zpm_16, zpm_17, zpm_18, zpm_22, zpm_23, zpm_31, zpm_32, zpm_36, zis_mo, zuN_eq, zuN_ne, zen_181, e_181_0, e_181_1, e_181_4t, e_181_4f, e_181_7, e_181_8, e_181_11t, e_181_11f, e_181_14, e_181_16, e_181_17, e_181_18, e_181_19, e_181_20, e_181_23, e_181_26t, e_181_26f, e_181_29, e_181_31, e_181_32, e_181_33, e_181_36, e_181_39t, e_181_39f, e_181_42, e_181_44, e_181_45, e_181_46, e_181_47, e_181_48, e_181_49, e_181_52, e_181_54k0, e_181_54k1, e_181_54k2, e_181_54k3, e_181_54k4, e_181_54k5, e_181_54kd, e_181_92, e_181_93, e_181_96, e_181_98t, e_181_98f, e_181_101, e_181_102, e_181_105, e_181_106, e_181_107, e_181_108, e_181_111, e_181_112, e_181_113, e_181_116, e_181_117, e_181_118, e_181_121, e_181_122, e_181_123, e_181_126, e_181_127, e_181_128, e_181_131, e_181_132, e_181_133, e_181_136, zPa_some, zPn_some, zRK_some, zRK_none, zCk_t, zis_ob, zget_set_eq, zget_set_ne, zAld_10, zAld_11, zAst_10, zAst_11, zAlen_10, zAlen_11, zbd_t, zbd_f, zb_t, zb_f, zset_set, s_one0, s_one1, zis_so, h0, s_isSectorM, s_in, e, wS_10, wS_11, wS_12, wS_13, wS_14, wS_15]
            · rw [if_neg q]
              simp (disch := omega) only [zgm_0, zgm_1, zgm_2, zgm_3, zgm_4, zgm_5, zgm_6, zgm_7, zgm_8, zgm_9, zgm_10, zgm_11, zgm_12, zgm_13, zgm_14, zgm_15, zgm_16, zgm_17, zgm_18, zgm_19, zgm_20, zgm_21, zgm_22, zgm_23, zgm_24, zgm_25, zgm_26, zgm_27, zgm_28, zgm_29, zgm_30, zgm_31, zgm_32, zgm_33, zgm_34, zgm_35, zgm_36, zgm_37, zpm_4, zpm_5, zpm_6, zpm_7, zpm_8, zpm_9, zpm_10, zpm_11, zpm_12, zpm_13, zpm_14, zpm_15, zpm_16, zpm_17, zpm_18, zpm_22, zpm_23, zpm_31, zpm_32, zpm_36, zis_mo, zuN_eq, zuN_ne, zen_181, e_181_0, e_181_1, e_181_4t, e_181_4f, e_181_7, e_181_8, e_181_11t, e_181_11f, e_181_14, e_181_16, e_181_17, e_181_18, e_181_19, e_181_20, e_181_23, e_181_26t, e_181_26f, e_181_29, e_181_31, e_181_32, e_181_33, e_181_36, e_181_39t, e_181_39f, e_181_42, e_181_44, e_181_45, e_181_46, e_181_47, e_181_48, e_181_49, e_181_52, e_181_54k0, e_181_54k1, e_181_54k2, e_181_54k3, e_181_54k4, e_181_54k5, e_181_54kd, e_181_92, e_181_93, e_181_96, e_181_98t, e_181_98f, e_181_101, e_181_102, e_181_105, e_181_106, e_181_107, e_181_108, e_181_111, e_181_112, e_181_113, e_181_116, e_181_117, e_181_118, e_181_121, e_181_122, e_181_123, e_181_126, e_181_127, e_181_128, e_181_131, e_181_132, e_181_133, e_181_136, zPa_some, zPn_some, zRK_some, zRK_none, zCk_t, zis_ob, zget_set_eq, zget_set_ne, zAld_10, zAld_11, zAst_10, zAst_11, zAlen_10, zAlen_11, zbd_t, zbd_f, zb_t, zb_f, zset_set, s_one0, s_one1, zis_so, h0, s_isSectorM, s_in, e, wS_10, wS_11, wS_12, wS_13, wS_14, wS_15]
          · rw [if_neg u0]
            by_cases u1 : u = 1
            · rw [if_pos u1]
              simp (disch := omega) only [zgm_0, zgm_1, zgm_2, zgm_3, zgm_4, zgm_5, zgm_6, zgm_7, zgm_8, zgm_9, zgm_10, zgm_11, zgm_12, zgm_13, zgm_14, zgm_15, zgm_16, zgm_17, zgm_18, zgm_19, zgm_20, zgm_21, zgm_22, zgm_23, zgm_24, zgm_25, zgm_26, zgm_27, zgm_28, zgm_29, zgm_30, zgm_31, zgm_32, zgm_33, zgm_34, zgm_35, zgm_36, zgm_37, zpm_4, zpm_5, zpm_6, zpm_7, zpm_8, zpm_9, zpm_10, zpm_11, zpm_12, zpm_13, zpm_14, zpm_15, zpm_16, zpm_17, zpm_18, zpm_22, zpm_23, zpm_31, zpm_32, zpm_36, zis_mo, zuN_eq, zuN_ne, zen_181, e_181_0, e_181_1, e_181_4t, e_181_4f, e_181_7, e_181_8, e_181_11t, e_181_11f, e_181_14, e_181_16, e_181_17, e_181_18, e_181_19, e_181_20, e_181_23, e_181_26t, e_181_26f, e_181_29, e_181_31, e_181_32, e_181_33, e_181_36, e_181_39t, e_181_39f, e_181_42, e_181_44, e_181_45, e_181_46, e_181_47, e_181_48, e_181_49, e_181_52, e_181_54k0, e_181_54k1, e_181_54k2, e_181_54k3, e_181_54k4, e_181_54k5, e_181_54kd, e_181_92, e_181_93, e_181_96, e_181_98t, e_181_98f, e_181_101, e_181_102, e_181_105, e_181_106, e_181_107, e_181_108, e_181_111, e_181_112, e_181_113, e_181_116, e_181_117, e_181_118, e_181_121, e_181_122, e_181_123, e_181_126, e_181_127, e_181_128, e_181_131, e_181_132, e_181_133, e_181_136, zPa_some, zPn_some, zRK_some, zRK_none, zCk_t, zis_ob, zget_set_eq, zget_set_ne, zAld_10, zAld_11, zAst_10, zAst_11, zAlen_10, zAlen_11, zbd_t, zbd_f, zb_t, zb_f, zset_set, s_one0, s_one1, zis_so, h0, s_isSectorM, s_in, e, wS_10, wS_11, wS_12, wS_13, wS_14, wS_15]
            · rw [if_neg u1]
              by_cases u2 : u = 2
              · rw [if_pos u2]
                simp (disch := omega) only [zgm_0, zgm_1, zgm_2, zgm_3, zgm_4, zgm_5, zgm_6, zgm_7, zgm_8, zgm_9, zgm_10, zgm_11, zgm_12, zgm_13, zgm_14, zgm_15, zgm_16, zgm_17, zgm_18, zgm_19, zgm_20, zgm_21, zgm_22, zgm_23, zgm_24, zgm_25, zgm_26, zgm_27, zgm_28, zgm_29, zgm_30, zgm_31, zgm_32, zgm_33, zgm_34, zgm_35, zgm_36, zgm_37, zpm_4, zpm_5, zpm_6, zpm_7, zpm_8, zpm_9, zpm_10, zpm_11, zpm_12, zpm_13, zpm_14, zpm_15, zpm_16, zpm_17, zpm_18, zpm_22, zpm_23, zpm_31, zpm_32, zpm_36, zis_mo, zuN_eq, zuN_ne, zen_181, e_181_0, e_181_1, e_181_4t, e_181_4f, e_181_7, e_181_8, e_181_11t, e_181_11f, e_181_14, e_181_16, e_181_17, e_181_18, e_181_19, e_181_20, e_181_23, e_181_26t, e_181_26f, e_181_29, e_181_31, e_181_32, e_181_33, e_181_36, e_181_39t, e_181_39f, e_181_42, e_181_44, e_181_45, e_181_46, e_181_47, e_181_48, e_181_49, e_181_52, e_181_54k0, e_181_54k1, e_181_54k2, e_181_54k3, e_181_54k4, e_181_54k5, e_181_54kd, e_181_92, e_181_93, e_181_96, e_181_98t, e_181_98f, e_181_101, e_181_102, e_181_105, e_181_106, e_181_107, e_181_108, e_181_111, e_181_112, e_181_113, e_181_116, e_181_117, e_181_118, e_181_121, e_181_122, e_181_123, e_181_126, e_181_127, e_181_128, e_181_131, e_181_132, e_181_133, e_181_136, zPa_some, zPn_some, zRK_some, zRK_none, zCk_t, zis_ob, zget_set_eq, zget_set_ne, zAld_10, zAld_11, zAst_10, zAst_11, zAlen_10, zAlen_11, zbd_t, zbd_f, zb_t, zb_f, zset_set, s_one0, s_one1, zis_so, h0, s_isSectorM, s_in, e, wS_10, wS_11, wS_12, wS_13, wS_14, wS_15]
              · rw [if_neg u2]
                by_cases u3 : u = 3
                · rw [if_pos u3]
                  simp (disch := omega) only [zgm_0, zgm_1, zgm_2, zgm_3, zgm_4, zgm_5, zgm_6, zgm_7, zgm_8, zgm_9, zgm_10, zgm_11, zgm_12, zgm_13, zgm_14, zgm_15, zgm_16, zgm_17, zgm_18, zgm_19, zgm_20, zgm_21, zgm_22, zgm_23, zgm_24, zgm_25, zgm_26, zgm_27, zgm_28, zgm_29, zgm_30, zgm_31, zgm_32, zgm_33, zgm_34, zgm_35, zgm_36, zgm_37, zpm_4, zpm_5, zpm_6, zpm_7, zpm_8, zpm_9, zpm_10, zpm_11, zpm_12, zpm_13, zpm_14, zpm_15, zpm_16, zpm_17, zpm_18, zpm_22, zpm_23, zpm_31, zpm_32, zpm_36, zis_mo, zuN_eq, zuN_ne, zen_181, e_181_0, e_181_1, e_181_4t, e_181_4f, e_181_7, e_181_8, e_181_11t, e_181_11f, e_181_14, e_181_16, e_181_17, e_181_18, e_181_19, e_181_20, e_181_23, e_181_26t, e_181_26f, e_181_29, e_181_31, e_181_32, e_181_33, e_181_36, e_181_39t, e_181_39f, e_181_42, e_181_44, e_181_45, e_181_46, e_181_47, e_181_48, e_181_49, e_181_52, e_181_54k0, e_181_54k1, e_181_54k2, e_181_54k3, e_181_54k4, e_181_54k5, e_181_54kd, e_181_92, e_181_93, e_181_96, e_181_98t, e_181_98f, e_181_101, e_181_102, e_181_105, e_181_106, e_181_107, e_181_108, e_181_111, e_181_112, e_181_113, e_181_116, e_181_117, e_181_118, e_181_121, e_181_122, e_181_123, e_181_126, e_181_127, e_181_128, e_181_131, e_181_132, e_181_133, e_181_136, zPa_some, zPn_some, zRK_some, zRK_none, zCk_t, zis_ob, zget_set_eq, zget_set_ne, zAld_10, zAld_11, zAst_10, zAst_11, zAlen_10, zAlen_11, zbd_t, zbd_f, zb_t, zb_f, zset_set, s_one0, s_one1, zis_so, h0, s_isSectorM, s_in, e, wS_10, wS_11, wS_12, wS_13, wS_14, wS_15]
                · rw [if_neg u3]
                  by_cases u4 : u = 4
                  · rw [if_pos u4]
                    simp (disch := omega) only [zgm_0, zgm_1, zgm_2, zgm_3, zgm_4, zgm_5, zgm_6, zgm_7, zgm_8, zgm_9, zgm_10, zgm_11, zgm_12, zgm_13, zgm_14, zgm_15, zgm_16, zgm_17, zgm_18, zgm_19, zgm_20, zgm_21, zgm_22, zgm_23, zgm_24, zgm_25, zgm_26, zgm_27, zgm_28, zgm_29, zgm_30, zgm_31, zgm_32, zgm_33, zgm_34, zgm_35, zgm_36, zgm_37, zpm_4, zpm_5, zpm_6, zpm_7, zpm_8, zpm_9, zpm_10, zpm_11, zpm_12, zpm_13, zpm_14, zpm_15, zpm_16, zpm_17, zpm_18, zpm_22, zpm_23, zpm_31, zpm_32, zpm_36, zis_mo, zuN_eq, zuN_ne, zen_181, e_181_0, e_181_1, e_181_4t, e_181_4f, e_181_7, e_181_8, e_181_11t, e_181_11f, e_181_14, e_181_16, e_181_17, e_181_18, e_181_19, e_181_20, e_181_23, e_181_26t, e_181_26f, e_181_29, e_181_31, e_181_32, e_181_33, e_181_36, e_181_39t, e_181_39f, e_181_42, e_181_44, e_181_45, e_181_46, e_181_47, e_181_48, e_181_49, e_181_52, e_181_54k0, e_181_54k1, e_181_54k2, e_181_54k3, e_181_54k4, e_181_54k5, e_181_54kd, e_181_92, e_181_93, e_181_96, e_181_98t, e_181_98f, e_181_101, e_181_102, e_181_105, e_181_106, e_181_107, e_181_108, e_181_111, e_181_112, e_181_113, e_181_116, e_181_117, e_181_118, e_181_121, e_181_122, e_181_123, e_181_126, e_181_127, e_181_128, e_181_131, e_181_132, e_181_133, e_181_136, zPa_some, zPn_some, zRK_some, zRK_none, zCk_t, zis_ob, zget_set_eq, zget_set_ne, zAld_10, zAld_11, zAst_10, zAst_11, zAlen_10, zAlen_11, zbd_t, zbd_f, zb_t, zb_f, zset_set, s_one0, s_one1, zis_so, h0, s_isSectorM, s_in, e, wS_10, wS_11, wS_12, wS_13, wS_14, wS_15]
                  · rw [if_neg u4]
                    by_cases u5 : u = 5
                    · rw [if_pos u5]
                      simp (disch := omega) only [zgm_0, zgm_1, zgm_2, zgm_3, zgm_4, zgm_5, zgm_6, zgm_7, zgm_8, zgm_9, zgm_10, zgm_11, zgm_12, zgm_13, zgm_14, zgm_15, zgm_16, zgm_17, zgm_18, zgm_19, zgm_20, zgm_21, zgm_22, zgm_23, zgm_24, zgm_25, zgm_26, zgm_27, zgm_28, zgm_29, zgm_30, zgm_31, zgm_32, zgm_33, zgm_34, zgm_35, zgm_36, zgm_37, zpm_4, zpm_5, zpm_6, zpm_7, zpm_8, zpm_9, zpm_10, zpm_11, zpm_12, zpm_13, zpm_14, zpm_15, zpm_16, zpm_17, zpm_18, zpm_22, zpm_23, zpm_31, zpm_32, zpm_36, zis_mo, zuN_eq, zuN_ne, zen_181, e_181_0, e_181_1, e_181_4t, e_181_4f, e_181_7, e_181_8, e_181_11t, e_181_11f, e_181_14, e_181_16, e_181_17, e_181_18, e_181_19, e_181_20, e_181_23, e_181_26t, e_181_26f, e_181_29, e_181_31, e_181_32, e_181_33, e_181_36, e_181_39t, e_181_39f, e_181_42, e_181_44, e_181_45, e_181_46, e_181_47, e_181_48, e_181_49, e_181_52, e_181_54k0, e_181_54k1, e_181_54k2, e_181_54k3, e_181_54k4, e_181_54k5, e_181_54kd, e_181_92, e_181_93, e_181_96, e_181_98t, e_181_98f, e_181_101, e_181_102, e_181_105, e_181_106, e_181_107, e_181_108, e_181_111, e_181_112, e_181_113, e_181_116, e_181_117, e_181_118, e_181_121, e_181_122, e_181_123, e_181_126, e_181_127, e_181_128, e_181_131, e_181_132, e_181_133, e_181_136, zPa_some, zPn_some, zRK_some, zRK_none, zCk_t, zis_ob, zget_set_eq, zget_set_ne, zAld_10, zAld_11, zAst_10, zAst_11, zAlen_10, zAlen_11, zbd_t, zbd_f, zb_t, zb_f, zset_set, s_one0, s_one1, zis_so, h0, s_isSectorM, s_in, e, wS_10, wS_11, wS_12, wS_13, wS_14, wS_15]
                    · rw [if_neg u5]
                      simp (disch := omega) only [zgm_0, zgm_1, zgm_2, zgm_3, zgm_4, zgm_5, zgm_6, zgm_7, zgm_8, zgm_9, zgm_10, zgm_11, zgm_12, zgm_13, zgm_14, zgm_15, zgm_16, zgm_17, zgm_18, zgm_19, zgm_20, zgm_21, zgm_22, zgm_23, zgm_24, zgm_25, zgm_26, zgm_27, zgm_28, zgm_29, zgm_30, zgm_31, zgm_32, zgm_33, zgm_34, zgm_35, zgm_36, zgm_37, zpm_4, zpm_5, zpm_6, zpm_7, zpm_8, zpm_9, zpm_10, zpm_11, zpm_12, zpm_13, zpm_14, zpm_15, zpm_16, zpm_17, zpm_18, zpm_22, zpm_23, zpm_31, zpm_32, zpm_36, zis_mo, zuN_eq, zuN_ne, zen_181, e_181_0, e_181_1, e_181_4t, e_181_4f, e_181_7, e_181_8, e_181_11t, e_181_11f, e_181_14, e_181_16, e_181_17, e_181_18, e_181_19, e_181_20, e_181_23, e_181_26t, e_181_26f, e_181_29, e_181_31, e_181_32, e_181_33, e_181_36, e_181_39t, e_181_39f, e_181_42, e_181_44, e_181_45, e_181_46, e_181_47, e_181_48, e_181_49, e_181_52, e_181_54k0, e_181_54k1, e_181_54k2, e_181_54k3, e_181_54k4, e_181_54k5, e_181_54kd, e_181_92, e_181_93, e_181_96, e_181_98t, e_181_98f, e_181_101, e_181_102, e_181_105, e_181_106, e_181_107, e_181_108, e_181_111, e_181_112, e_181_113, e_181_116, e_181_117, e_181_118, e_181_121, e_181_122, e_181_123, e_181_126, e_181_127, e_181_128, e_181_131, e_181_132, e_181_133, e_181_136, zPa_some, zPn_some, zRK_some, zRK_none, zCk_t, zis_ob, zget_set_eq, zget_set_ne, zAld_10, zAld_11, zAst_10, zAst_11, zAlen_10, zAlen_11, zbd_t, zbd_f, zb_t, zb_f, zset_set, s_one0, s_one1, zis_so, h0, s_isSectorM, s_in, e, wS_10, wS_11, wS_12, wS_13, wS_14, wS_15]
        · rw [if_neg (fun q => c4 q.2)]
          refine MCl_p x (fun d K => ?_)
          simp (disch := omega) only [zgm_0, zgm_1, zgm_2, zgm_3, zgm_4, zgm_5, zgm_6, zgm_7, zgm_8, zgm_9, zgm_10, zgm_11, zgm_12, zgm_13, zgm_14, zgm_15, zgm_16, zgm_17, zgm_18, zgm_19, zgm_20, zgm_21, zgm_22, zgm_23, zgm_24, zgm_25, zgm_26, zgm_27, zgm_28, zgm_29, zgm_30, zgm_31, zgm_32, zgm_33, zgm_34, zgm_35, zgm_36, zgm_37, zpm_4, zpm_5, zpm_6, zpm_7, zpm_8, zpm_9, zpm_10, zpm_11, zpm_12, zpm_13, zpm_14, zpm_15, zpm_16, zpm_17, zpm_18, zpm_22, zpm_23, zpm_31, zpm_32, zpm_36, zis_mo, zuN_eq, zuN_ne, zen_181, e_181_0, e_181_1, e_181_4t, e_181_4f, e_181_7, e_181_8, e_181_11t, e_181_11f, e_181_14, e_181_16, e_181_17, e_181_18, e_181_19, e_181_20, e_181_23, e_181_26t, e_181_26f, e_181_29, e_181_31, e_181_32, e_181_33, e_181_36, e_181_39t, e_181_39f, e_181_42, e_181_44, e_181_45, e_181_46, e_181_47, e_181_48, e_181_49, e_181_52, e_181_54k0, e_181_54k1, e_181_54k2, e_181_54k3, e_181_54k4, e_181_54k5, e_181_54kd, e_181_92, e_181_93, e_181_96, e_181_98t, e_181_98f, e_181_101, e_181_102, e_181_105, e_181_106, e_181_107, e_181_108, e_181_111, e_181_112, e_181_113, e_181_116, e_181_117, e_181_118, e_181_121, e_181_122, e_181_123, e_181_126, e_181_127, e_181_128, e_181_131, e_181_132, e_181_133, e_181_136, zPa_some, zPn_some, zRK_some, zRK_none, zCk_t, zis_ob, zget_set_eq, zget_set_ne, zAld_10, zAld_11, zAst_10, zAst_11, zAlen_10, zAlen_11, zbd_t, zbd_f, zb_t, zb_f, zset_set, s_one0, s_one1, zis_so, s_isSectorM, s_in]
      · rw [if_neg (fun q => c3 q.1)]
        refine MCl_p x (fun d K => ?_)
        simp (disch := omega) only [zgm_0, zgm_1, zgm_2, zgm_3, zgm_4, zgm_5, zgm_6, zgm_7, zgm_8, zgm_9, zgm_10, zgm_11, zgm_12, zgm_13, zgm_14, zgm_15, zgm_16, zgm_17, zgm_18, zgm_19, zgm_20, zgm_21, zgm_22, zgm_23, zgm_24, zgm_25, zgm_26, zgm_27, zgm_28, zgm_29, zgm_30, zgm_31, zgm_32, zgm_33, zgm_34, zgm_35, zgm_36, zgm_37, zpm_4, zpm_5, zpm_6, zpm_7, zpm_8, zpm_9, zpm_10, zpm_11, zpm_12, zpm_13, zpm_14, zpm_15, zpm_16, zpm_17, zpm_18, zpm_22, zpm_23, zpm_31, zpm_32, zpm_36, zis_mo, zuN_eq, zuN_ne, zen_181, e_181_0, e_181_1, e_181_4t, e_181_4f, e_181_7, e_181_8, e_181_11t, e_181_11f, e_181_14, e_181_16, e_181_17, e_181_18, e_181_19, e_181_20, e_181_23, e_181_26t, e_181_26f, e_181_29, e_181_31, e_181_32, e_181_33, e_181_36, e_181_39t, e_181_39f, e_181_42, e_181_44, e_181_45, e_181_46, e_181_47, e_181_48, e_181_49, e_181_52, e_181_54k0, e_181_54k1, e_181_54k2, e_181_54k3, e_181_54k4, e_181_54k5, e_181_54kd, e_181_92, e_181_93, e_181_96, e_181_98t, e_181_98f, e_181_101, e_181_102, e_181_105, e_181_106, e_181_107, e_181_108, e_181_111, e_181_112, e_181_113, e_181_116, e_181_117, e_181_118, e_181_121, e_181_122, e_181_123, e_181_126, e_181_127, e_181_128, e_181_131, e_181_132, e_181_133, e_181_136, zPa_some, zPn_some, zRK_some, zRK_none, zCk_t, zis_ob, zget_set_eq, zget_set_ne, zAld_10, zAld_11, zAst_10, zAst_11, zAlen_10, zAlen_11, zbd_t, zbd_f, zb_t, zb_f, zset_set, s_one0, s_one1, zis_so, s_isSectorM, s_in]
    · rw [if_neg (fun q => c2 q.2)]
      refine MCl_p x (fun d K => ?_)
      simp (disch := omega) only [zgm_0, zgm_1, zgm_2, zgm_3, zgm_4, zgm_5, zgm_6, zgm_7, zgm_8, zgm_9, zgm_10, zgm_11, zgm_12, zgm_13, zgm_14, zgm_15, zgm_16, zgm_17, zgm_18, zgm_19, zgm_20, zgm_21, zgm_22, zgm_23, zgm_24, zgm_25, zgm_26, zgm_27, zgm_28, zgm_29, zgm_30, zgm_31, zgm_32, zgm_33, zgm_34, zgm_35, zgm_36, zgm_37, zpm_4, zpm_5, zpm_6, zpm_7, zpm_8, zpm_9, zpm_10, zpm_11, zpm_12, zpm_13, zpm_14, zpm_15, zpm_16, zpm_17, zpm_18, zpm_22, zpm_23, zpm_31, zpm_32, zpm_36, zis_mo, zuN_eq, zuN_ne, zen_181, e_181_0, e_181_1, e_181_4t, e_181_4f, e_181_7, e_181_8, e_181_11t, e_181_11f, e_181_14, e_181_16, e_181_17, e_181_18, e_181_19, e_181_20, e_181_23, e_181_26t, e_181_26f, e_181_29, e_181_31, e_181_32, e_181_33, e_181_36, e_181_39t, e_181_39f, e_181_42, e_181_44, e_181_45, e_181_46, e_181_47, e_181_48, e_181_49, e_181_52, e_181_54k0, e_181_54k1, e_181_54k2, e_181_54k3, e_181_54k4, e_181_54k5, e_181_54kd, e_181_92, e_181_93, e_181_96, e_181_98t, e_181_98f, e_181_101, e_181_102, e_181_105, e_181_106, e_181_107, e_181_108, e_181_111, e_181_112, e_181_113, e_181_116, e_181_117, e_181_118, e_181_121, e_181_122, e_181_123, e_181_126, e_181_127, e_181_128, e_181_131, e_181_132, e_181_133, e_181_136, zPa_some, zPn_some, zRK_some, zRK_none, zCk_t, zis_ob, zget_set_eq, zget_set_ne, zAld_10, zAld_11, zAst_10, zAst_11, zAlen_10, zAlen_11, zbd_t, zbd_f, zb_t, zb_f, zset_set, s_one0, s_one1, zis_so, s_isSectorM]
  · rw [if_neg (fun q => c1 q.1)]
    refine MCl_p x (fun d K => ?_)
    simp (disch := omega) only [zgm_0, zgm_1, zgm_2, zgm_3, zgm_4, zgm_5, zgm_6, zgm_7, zgm_8, zgm_9, zgm_10, zgm_11, zgm_12, zgm_13, zgm_14, zgm_15, zgm_16, zgm_17, zgm_18, zgm_19, zgm_20, zgm_21, zgm_22, zgm_23, zgm_24, zgm_25, zgm_26, zgm_27, zgm_28, zgm_29, zgm_30, zgm_31, zgm_32, zgm_33, zgm_34, zgm_35, zgm_36, zgm_37, zpm_4, zpm_5, zpm_6, zpm_7, zpm_8, zpm_9, zpm_10, zpm_11, zpm_12, zpm_13, zpm_14, zpm_15, zpm_16, zpm_17, zpm_18, zpm_22, zpm_23, zpm_31, zpm_32, zpm_36, zis_mo, zuN_eq, zuN_ne, zen_181, e_181_0, e_181_1, e_181_4t, e_181_4f, e_181_7, e_181_8, e_181_11t, e_181_11f, e_181_14, e_181_16, e_181_17, e_181_18, e_181_19, e_181_20, e_181_23, e_181_26t, e_181_26f, e_181_29, e_181_31, e_181_32, e_181_33, e_181_36, e_181_39t, e_181_39f, e_181_42, e_181_44, e_181_45, e_181_46, e_181_47, e_181_48, e_181_49, e_181_52, e_181_54k0, e_181_54k1, e_181_54k2, e_181_54k3, e_181_54k4, e_181_54k5, e_181_54kd, e_181_92, e_181_93, e_181_96, e_181_98t, e_181_98f, e_181_101, e_181_102, e_181_105, e_181_106, e_181_107, e_181_108, e_181_111, e_181_112, e_181_113, e_181_116, e_181_117, e_181_118, e_181_121, e_181_122, e_181_123, e_181_126, e_181_127, e_181_128, e_181_131, e_181_132, e_181_133, e_181_136, zPa_some, zPn_some, zRK_some, zRK_none, zCk_t, zis_ob, zget_set_eq, zget_set_ne, zAld_10, zAld_11, zAst_10, zAst_11, zAlen_10, zAlen_11, zbd_t, zbd_f, zb_t, zb_f, zset_set, s_one0, s_one1, zis_so, s_isSectorM]
-- grist
def pt (v : Nat → Int) (F : Int → Bool) (z u a t : Int) : Int := if u = 2 then (wy v F a t z).2.2.2.2.1 else if (wy v F a t z).1 = 8 then (if u = 0 then 1 else (wy v F a t z).2.2.1) else 0
def opA (u s p : Int) : Int := if u = 3 then max s p else s + p
theorem pt3_rng (g : wRv v) {z a t : Int} (h : 0 ≤ a ∧ a ≤ 23 ∧ 1 ≤ z ∧ z ≤ 100) : 0 ≤ pt v F z 3 a t ∧ pt v F z 3 a t ≤ 100 := by
  have r := wy_rng (F := F) g (a := a) (t := t) (z := z) h
  unfold pt
  rw [if_neg (by decide), if_neg (show ¬ (3 : Int) = 0 by decide)]
  split <;> omega
def grX (v : Nat → Int) (F : Int → Bool) (z u a s : Int) : Int := opA u (opA u (opA u (opA u s (pt v F z u a 0)) (pt v F z u a 6)) (pt v F z u a 12)) (pt v F z u a 18)
theorem s_share {p : Nat} {a t z t' : Int} (h : zget M p = some (gCP (wy v F a t z) t')) (g : wRv v) (ha : 0 ≤ a ∧ a ≤ 23 ∧ 1 ≤ z ∧ z ≤ 100) : ∀ (d : Nat) (u : Int) (K : zK), (0 ≤ u ∧ u ≤ 3) → zC (d + 3) 20 [.ref p, .int (zi u)] M K = K (some (.int (zi (pt v F z u a t)))) M := by
  intro d u K hu
  have r := wy_rng (F := F) g (a := a) (t := t) (z := z) ha
  unfold gCP at h
  unfold pt
  by_cases u2 : u = 2
  · rw [if_pos u2]
    simp (disch := omega) only [zen_20, e_20_0, e_20_1, e_20_2t, e_20_2f, e_20_5, e_20_6, e_20_9, e_20_10, e_20_11, e_20_14t, e_20_14f, e_20_17, e_20_18, e_20_19, e_20_20t, e_20_20f, e_20_23, e_20_24, e_20_27, e_20_28, e_20_31, zgf_1_3, zgf_1_5, zPa_some, zPn_some, zRK_some, zRK_none, zCk_t, zis_ob, zget_set_eq, zget_set_ne, zAld_10, zAld_11, zAst_10, zAst_11, zAlen_10, zAlen_11, zbd_t, zbd_f, zb_t, zb_f, zset_set, s_one0, s_one1, zis_so, h]
  · rw [if_neg u2]
    by_cases q : (wy v F a t z).1 = 8
    · rw [if_pos q]
      by_cases u0 : u = 0
      · rw [if_pos u0]
        simp (disch := omega) only [zen_20, e_20_0, e_20_1, e_20_2t, e_20_2f, e_20_5, e_20_6, e_20_9, e_20_10, e_20_11, e_20_14t, e_20_14f, e_20_17, e_20_18, e_20_19, e_20_20t, e_20_20f, e_20_23, e_20_24, e_20_27, e_20_28, e_20_31, zgf_1_3, zgf_1_5, zen_18, e_18_0, e_18_1, e_18_4, e_18_6t, e_18_6f, e_18_9, e_18_10, e_18_13, e_18_14, zgf_1_0, zPa_some, zPn_some, zRK_some, zRK_none, zCk_t, zis_ob, zget_set_eq, zget_set_ne, zAld_10, zAld_11, zAst_10, zAst_11, zAlen_10, zAlen_11, zbd_t, zbd_f, zb_t, zb_f, zset_set, s_one0, s_one1, zis_so, h]
      · rw [if_neg u0]
        simp (disch := omega) only [zen_20, e_20_0, e_20_1, e_20_2t, e_20_2f, e_20_5, e_20_6, e_20_9, e_20_10, e_20_11, e_20_14t, e_20_14f, e_20_17, e_20_18, e_20_19, e_20_20t, e_20_20f, e_20_23, e_20_24, e_20_27, e_20_28, e_20_31, zgf_1_3, zgf_1_5, zen_18, e_18_0, e_18_1, e_18_4, e_18_6t, e_18_6f, e_18_9, e_18_10, e_18_13, e_18_14, zgf_1_0, zPa_some, zPn_some, zRK_some, zRK_none, zCk_t, zis_ob, zget_set_eq, zget_set_ne, zAld_10, zAld_11, zAst_10, zAst_11, zAlen_10, zAlen_11, zbd_t, zbd_f, zb_t, zb_f, zset_set, s_one0, s_one1, zis_so, h]
    · rw [if_neg q]
      simp (disch := omega) only [zen_20, e_20_0, e_20_1, e_20_2t, e_20_2f, e_20_5, e_20_6, e_20_9, e_20_10, e_20_11, e_20_14t, e_20_14f, e_20_17, e_20_18, e_20_19, e_20_20t, e_20_20f, e_20_23, e_20_24, e_20_27, e_20_28, e_20_31, zgf_1_3, zgf_1_5, zen_18, e_18_0, e_18_1, e_18_4, e_18_6t, e_18_6f, e_18_9, e_18_10, e_18_13, e_18_14, zgf_1_0, zPa_some, zPn_some, zRK_some, zRK_none, zCk_t, zis_ob, zget_set_eq, zget_set_ne, zAld_10, zAld_11, zAst_10, zAst_11, zAlen_10, zAlen_11, zbd_t, zbd_f, zb_t, zb_f, zset_set, s_one0, s_one1, zis_so, h]
theorem l_112t (x : GXe b v F C G M) (rv : RV v) (z u a t s : Int) (h : 1 ≤ z ∧ z ≤ 100 ∧ 0 ≤ u ∧ u ≤ 3 ∧ 0 ≤ a ∧ a ≤ 23 ∧ 0 ≤ t ∧ t ≤ 18) (hs : u = 3 → 0 ≤ s ∧ s ≤ 100) (u6 : Option Value) : ∃ M' u6', (∀ (d : Nat) (K : zK), Ev (d + 9) 112 63 [some (.ref b), some (.int (zi z)), some (.int (zi u)), some (.int (zi s)), some (.int (zi a)), some (.int (zi t)), u6] [.int (zi 24), .int (zi t)] M K = Ev (d + 9) 112 63 [some (.ref b), some (.int (zi z)), some (.int (zi u)), some (.int (zi (opA u s (pt v F z u a t)))), some (.int (zi a)), some (.int (zi (t + 6))), u6'] [.int (zi 24), .int (zi (t + 6))] M' K) ∧ GXe b v F C G M' ∧ zFr (b + 3) 1 M M' ∧ (u = 3 → 0 ≤ opA u s (pt v F z u a t) ∧ opA u s (pt v F z u a t) ≤ 100) := by
  obtain ⟨M1, M2, t', e1, e2, e3, y, f1, f2, i1⟩ := s_sent x rv a t z (by omega)
  obtain ⟨r0, s0, t0, z0, c0, w0, e0, x1, x2, x3, x4, x5, x6⟩ := x
  refine ⟨M2, some (.int (zi (pt v F z u a t))), fun d K => ?_, y, f2, fun hu => ?_⟩
  · have q0 := x1.1
    have q01 := (XO_fr x1 f1 (by omega)).1
    have q02 := (XO_fr x1 f2 (by omega)).1
    have q46 := (XO_fr x1 f1 (by omega)).2.2
    have q2 := XH_fr x3 f1 (by omega)
    unfold XH at q2
    have e4 := s_share e3 (RV_w rv) (by omega)
    unfold opA
    by_cases u3 : u = 3
    · have r3 := pt3_rng (F := F) (RV_w rv) (z := z) (a := a) (t := t) (by omega)
      have hs3 := hs u3
      subst u3
      rw [if_pos rfl]
      simp (disch := omega) only [zen_112, e_112_0, e_112_1, e_112_2, e_112_4, e_112_7t, e_112_7f, e_112_10, e_112_11, e_112_12, e_112_13, e_112_16t, e_112_16f, e_112_19, e_112_21, e_112_22, e_112_23, e_112_26, e_112_28t, e_112_28f, e_112_31, e_112_33, e_112_34, e_112_35, e_112_36, e_112_39, e_112_40, e_112_41, e_112_44, e_112_45, e_112_46, e_112_47, e_112_49, e_112_51, e_112_53t, e_112_53f, e_112_56, e_112_57, e_112_59, e_112_61, e_112_63f, e_112_66, e_112_67, e_112_70, e_112_72, e_112_74, e_112_75, e_112_78, e_112_79, e_112_82, e_112_83, e_112_86, e_112_87, e_112_90, e_112_93, e_112_94, e_112_97, e_112_98, e_112_101, e_112_103, e_112_104, e_112_105t, e_112_105f, e_112_108, e_112_109, e_112_111, e_112_114, e_112_117, e_112_118, e_112_120, e_112_121, e_112_122, e_112_125, e_112_128, e_112_131, e_112_134, e_112_135, zgf_8_1, zgf_8_10, zgf_8_2, zgf_8_3, zpf_8_10, zPa_some, zPn_some, zRK_some, zRK_none, zCk_t, zis_ob, zget_set_eq, zget_set_ne, zAld_10, zAld_11, zAst_10, zAst_11, zAlen_10, zAlen_11, zbd_t, zbd_f, zb_t, zb_f, zset_set, s_one0, s_one1, zis_so, q0, q01, q02, q46, q2, x5, e1, e2, e3, e4, i1, zis_gC, zis_gCP, s_max]
    · rw [if_neg u3]
      simp (disch := omega) only [zen_112, e_112_0, e_112_1, e_112_2, e_112_4, e_112_7t, e_112_7f, e_112_10, e_112_11, e_112_12, e_112_13, e_112_16t, e_112_16f, e_112_19, e_112_21, e_112_22, e_112_23, e_112_26, e_112_28t, e_112_28f, e_112_31, e_112_33, e_112_34, e_112_35, e_112_36, e_112_39, e_112_40, e_112_41, e_112_44, e_112_45, e_112_46, e_112_47, e_112_49, e_112_51, e_112_53t, e_112_53f, e_112_56, e_112_57, e_112_59, e_112_61, e_112_63f, e_112_66, e_112_67, e_112_70, e_112_72, e_112_74, e_112_75, e_112_78, e_112_79, e_112_82, e_112_83, e_112_86, e_112_87, e_112_90, e_112_93, e_112_94, e_112_97, e_112_98, e_112_101, e_112_103, e_112_104, e_112_105t, e_112_105f, e_112_108, e_112_109, e_112_111, e_112_114, e_112_117, e_112_118, e_112_120, e_112_121, e_112_122, e_112_125, e_112_128, e_112_131, e_112_134, e_112_135, zgf_8_1, zgf_8_10, zgf_8_2, zgf_8_3, zpf_8_10, zPa_some, zPn_some, zRK_some, zRK_none, zCk_t, zis_ob, zget_set_eq, zget_set_ne, zAld_10, zAld_11, zAst_10, zAst_11, zAlen_10, zAlen_11, zbd_t, zbd_f, zb_t, zb_f, zset_set, s_one0, s_one1, zis_so, q0, q01, q02, q46, q2, x5, e1, e2, e3, e4, i1, zis_gC, zis_gCP]
  · have r3 := pt3_rng (F := F) (RV_w rv) (z := z) (a := a) (t := t) (by omega)
    have hs3 := hs hu
    subst hu
    unfold opA
    rw [if_pos rfl]
    omega
theorem l_112a (rv : RV v) (z u : Int) (h : 1 ≤ z ∧ z ≤ 100 ∧ 0 ≤ u ∧ u ≤ 3) : ∀ (n : Nat) (a s : Int) (M : zM) (u5 u6 : Option Value), GXe b v F C G M → a + n = 24 → 0 ≤ a → (u = 3 → 0 ≤ s ∧ s ≤ 100) → ∃ M', (∀ (d : Nat) (K : zK), Ev (d + 9) 112 53 [some (.ref b), some (.int (zi z)), some (.int (zi u)), some (.int (zi s)), some (.int (zi a)), u5, u6] [.int (zi 24), .int (zi a)] M K = K (some (.int (zi (zfor (grX v F z u) n a s)))) M') ∧ GXe b v F C G M' ∧ zFr (b + 3) 1 M M' := by
  intro n
  induction n with
  | zero =>
    intro a s M u5 u6 x ha q0 hs
    refine ⟨M, fun d K => ?_, x, zFr_refl⟩
    obtain rfl : a = 24 := by omega
    simp (disch := omega) only [zen_112, e_112_0, e_112_1, e_112_2, e_112_4, e_112_7t, e_112_7f, e_112_10, e_112_11, e_112_12, e_112_13, e_112_16t, e_112_16f, e_112_19, e_112_21, e_112_22, e_112_23, e_112_26, e_112_28t, e_112_28f, e_112_31, e_112_33, e_112_34, e_112_35, e_112_36, e_112_39, e_112_40, e_112_41, e_112_44, e_112_45, e_112_46, e_112_47, e_112_49, e_112_51, e_112_53t, e_112_53f, e_112_56, e_112_57, e_112_59, e_112_61, e_112_66, e_112_67, e_112_70, e_112_72, e_112_74, e_112_75, e_112_78, e_112_79, e_112_82, e_112_83, e_112_86, e_112_87, e_112_90, e_112_93, e_112_94, e_112_97, e_112_98, e_112_101, e_112_103, e_112_104, e_112_105t, e_112_105f, e_112_108, e_112_109, e_112_111, e_112_114, e_112_117, e_112_118, e_112_120, e_112_121, e_112_122, e_112_125, e_112_128, e_112_131, e_112_134, e_112_135, zgf_8_1, zgf_8_10, zgf_8_2, zgf_8_3, zpf_8_10, zPa_some, zPn_some, zRK_some, zRK_none, zCk_t, zis_ob, zget_set_eq, zget_set_ne, zAld_10, zAld_11, zAst_10, zAst_11, zAlen_10, zAlen_11, zbd_t, zbd_f, zb_t, zb_f, zset_set, s_one0, s_one1, zis_so, zfor_0]
  | succ n ih =>
    intro a s M u5 u6 x ha q0 hs
    obtain ⟨M1, v1, a1, a2, a3, a4⟩ := l_112t x rv z u a 0 s (by omega) hs u6
    obtain ⟨M2, v2, b1, b2, b3, b4⟩ := l_112t a2 rv z u a (0 + 6) _ (by omega) a4 v1
    obtain ⟨M3, v3, c1, c2, c3, c4⟩ := l_112t b2 rv z u a (0 + 6 + 6) _ (by omega) b4 v2
    obtain ⟨M4, v4, d1, d2, d3, d4⟩ := l_112t c2 rv z u a (0 + 6 + 6 + 6) _ (by omega) c4 v3
    obtain ⟨M', e1, e2, e3⟩ := ih (a + 1) _ M4 (some (.int (zi (0 + 6 + 6 + 6 + 6)))) v4 d2 (by omega) (by omega) d4
    refine ⟨M', fun d K => ?_, e2, zFr_trans a3 (zFr_trans b3 (zFr_trans c3 (zFr_trans d3 e3)))⟩
    have e1' := e1 d K
    rw [zfor_s]
    refine Eq.trans ?_ e1'
    simp (disch := omega) only [zen_112, e_112_0, e_112_1, e_112_2, e_112_4, e_112_7t, e_112_7f, e_112_10, e_112_11, e_112_12, e_112_13, e_112_16t, e_112_16f, e_112_19, e_112_21, e_112_22, e_112_23, e_112_26, e_112_28t, e_112_28f, e_112_31, e_112_33, e_112_34, e_112_35, e_112_36, e_112_39, e_112_40, e_112_41, e_112_44, e_112_45, e_112_46, e_112_47, e_112_49, e_112_51, e_112_53t, e_112_53f, e_112_56, e_112_57, e_112_59, e_112_61, e_112_66, e_112_67, e_112_70, e_112_72, e_112_74, e_112_75, e_112_78, e_112_79, e_112_82, e_112_83, e_112_86, e_112_87, e_112_90, e_112_93, e_112_94, e_112_97, e_112_98, e_112_101, e_112_103, e_112_104, e_112_105t, e_112_105f, e_112_108, e_112_109, e_112_111, e_112_114, e_112_117, e_112_118, e_112_120, e_112_121, e_112_122, e_112_125, e_112_128, e_112_131, e_112_134, e_112_135, zgf_8_1, zgf_8_10, zgf_8_2, zgf_8_3, zpf_8_10, zPa_some, zPn_some, zRK_some, zRK_none, zCk_t, zis_ob, zget_set_eq, zget_set_ne, zAld_10, zAld_11, zAst_10, zAst_11, zAlen_10, zAlen_11, zbd_t, zbd_f, zb_t, zb_f, zset_set, s_one0, s_one1, zis_so]
    rw [a1, b1, c1, d1]
    simp (disch := omega) only [zen_112, e_112_0, e_112_1, e_112_2, e_112_4, e_112_7t, e_112_7f, e_112_10, e_112_11, e_112_12, e_112_13, e_112_16t, e_112_16f, e_112_19, e_112_21, e_112_22, e_112_23, e_112_26, e_112_28t, e_112_28f, e_112_31, e_112_33, e_112_34, e_112_35, e_112_36, e_112_39, e_112_40, e_112_41, e_112_44, e_112_45, e_112_46, e_112_47, e_112_49, e_112_51, e_112_56, e_112_57, e_112_59, e_112_61, e_112_63t, e_112_63f, e_112_66, e_112_67, e_112_70, e_112_72, e_112_74, e_112_75, e_112_78, e_112_79, e_112_82, e_112_83, e_112_86, e_112_87, e_112_90, e_112_93, e_112_94, e_112_97, e_112_98, e_112_101, e_112_103, e_112_104, e_112_105t, e_112_105f, e_112_108, e_112_109, e_112_111, e_112_114, e_112_117, e_112_118, e_112_120, e_112_121, e_112_122, e_112_125, e_112_128, e_112_131, e_112_134, e_112_135, zgf_8_1, zgf_8_10, zgf_8_2, zgf_8_3, zpf_8_10, zPa_some, zPn_some, zRK_some, zRK_none, zCk_t, zis_ob, zget_set_eq, zget_set_ne, zAld_10, zAld_11, zAst_10, zAst_11, zAlen_10, zAlen_11, zbd_t, zbd_f, zb_t, zb_f, zset_set, s_one0, s_one1, zis_so]
theorem x_grist0 (hS : SL M) (hA : M.1 < b ∨ b + 47 ≤ M.1) (x : XI b v F C G R D M) (ri : RI v G R D) (z u : Int) (h : (1 ≤ z ∧ z ≤ 100) ∧ 0 ≤ u ∧ u ≤ 3) (c3 : ¬ v 16 = 40) : XCl b 11 112 [.ref b, .int (zi z), .int (zi u)] (.int (zi (zfor (grX v F z u) 24 0 0))) (zuN v 16 (v 16 + 1)) F C G R D M := by
  have r := ri.1.2.2.1
  obtain ⟨x1, x2, x3, x4, x5, x6, x7, x8⟩ := x
  have f1 := zFr_set (lo := b) (n := 1) (a := b) (M := M) (x := zOb 8 [.ref (b + 1), .ref (b + 46), .ref (b + 2), .ref (b + 3), .ref (b + 4), .ref (b + 9), .ref (b + 12), .ref (b + 17), .int (zi (v 4)), .int (zi (v 5)), .int (zi (v 16 + 1)), .int (zi (v 32)), .int (zi (v 17))]) (by omega)
  have y1 : XO b (zuN v 16 (v 16 + 1)) (zset M b (zOb 8 [.ref (b + 1), .ref (b + 46), .ref (b + 2), .ref (b + 3), .ref (b + 4), .ref (b + 9), .ref (b + 12), .ref (b + 17), .int (zi (v 4)), .int (zi (v 5)), .int (zi (v 16 + 1)), .int (zi (v 32)), .int (zi (v 17))])) := ⟨zget_set_eq, zFr_get f1 x1.2.1 (by omega), zFr_get f1 x1.2.2 (by omega)⟩
  have y2 := XS_fr x2 f1 (by omega)
  have y3 : XH b (zuN v 16 (v 16 + 1)) (zset M b (zOb 8 [.ref (b + 1), .ref (b + 46), .ref (b + 2), .ref (b + 3), .ref (b + 4), .ref (b + 9), .ref (b + 12), .ref (b + 17), .int (zi (v 4)), .int (zi (v 5)), .int (zi (v 16 + 1)), .int (zi (v 32)), .int (zi (v 17))])) := XH_fr x3 f1 (by omega)
  have y4 := XG_fr x4 f1 (by omega)
  have rv' : RV (zuN v 16 (v 16 + 1)) := ⟨ri.1.1, ri.1.2.1, ⟨by show 0 ≤ v 16 + 1; omega, by show v 16 + 1 ≤ 40; omega, ri.1.2.2.1.2.2⟩, ri.1.2.2.2⟩
  obtain ⟨M', e1, e2, f2⟩ := l_112a (b := b) (v := zuN v 16 (v 16 + 1)) (F := F) (C := C) (G := G) rv' z u (by omega) 24 0 0 _ none none (XI_GX (SL_fr hS f1 (by omega)) hA y1 y2 y3 y4) (by omega) (by omega) (fun _ => by omega)
  obtain ⟨r0, s0, t0, z0, c0, w0, e0, g1, g2, g3, g4, g5, g6⟩ := e2
  refine ⟨M', fun d K => ?_, ⟨g1, g2, g3, ⟨fun j => if j = 0 then r0 else if j = 1 then s0 else if j = 2 then t0 else if j = 3 then z0 else if j = 4 then c0 else if j = 5 then w0 else e0, g5⟩, XT_fr (XT_fr x5 f1 (by omega)) f2 (by omega), XR_fr (XR_fr x6 f1 (by omega)) f2 (by omega), XM_fr (XM_fr x7 f1 (by omega)) f2 (by omega), XP_fr (XP_fr x8 f1 (by omega)) f2 (by omega)⟩, zFr_trans (zFr_mono f1 (by omega)) (zFr_mono f2 (by omega))⟩
  have h0 := x1.1
  simp (disch := omega) only [zen_112, e_112_0, e_112_1, e_112_2, e_112_4, e_112_7t, e_112_7f, e_112_10, e_112_11, e_112_12, e_112_13, e_112_16t, e_112_16f, e_112_19, e_112_21, e_112_22, e_112_23, e_112_26, e_112_28t, e_112_28f, e_112_31, e_112_33, e_112_34, e_112_35, e_112_36, e_112_39, e_112_40, e_112_41, e_112_44, e_112_45, e_112_46, e_112_47, e_112_49, e_112_51, e_112_56, e_112_57, e_112_59, e_112_61, e_112_63t, e_112_63f, e_112_66, e_112_67, e_112_70, e_112_72, e_112_74, e_112_75, e_112_78, e_112_79, e_112_82, e_112_83, e_112_86, e_112_87, e_112_90, e_112_93, e_112_94, e_112_97, e_112_98, e_112_101, e_112_103, e_112_104, e_112_105t, e_112_105f, e_112_108, e_112_109, e_112_111, e_112_114, e_112_117, e_112_118, e_112_120, e_112_121, e_112_122, e_112_125, e_112_128, e_112_131, e_112_134, e_112_135, zgf_8_1, zgf_8_10, zgf_8_2, zgf_8_3, zpf_8_10, zPa_some, zPn_some, zRK_some, zRK_none, zCk_t, zis_ob, zget_set_eq, zget_set_ne, zAld_10, zAld_11, zAst_10, zAst_11, zAlen_10, zAlen_11, zbd_t, zbd_f, zb_t, zb_f, zset_set, s_one0, s_one1, zis_so, h0, s_isWithin]
  exact e1 (d + 1) K
def oGrist (v : Nat → Int) (F : Int → Bool) (z u : Int) : Int × (Nat → Int) := if (1 ≤ z ∧ z ≤ 100) ∧ 0 ≤ u ∧ u ≤ 3 then (if v 16 = 40 then (-103, v) else (zfor (grX v F z u) 24 0 0, zuN v 16 (v 16 + 1))) else (-102, v)
theorem RI_grist (ri : RI v G R D) (z u : Int) : RI (oGrist v F z u).2 G R D := by
  unfold oGrist
  split
  · split
    · exact ri
    · have r := ri.1.2.2.1
      exact ⟨⟨ri.1.1, ri.1.2.1, ⟨by show 0 ≤ v 16 + 1; omega, by show v 16 + 1 ≤ 40; omega, ri.1.2.2.1.2.2⟩, ri.1.2.2.2⟩, ri.2⟩
  · exact ri
theorem x_grist (hS : SL M) (hA : M.1 < b ∨ b + 47 ≤ M.1) (x : XI b v F C G R D M) (ri : RI v G R D) (z u : Int) (h : -2147483648 ≤ z ∧ z < 2147483648 ∧ -2147483648 ≤ u ∧ u < 2147483648) : XCl b 11 112 [.ref b, .int (zi z), .int (zi u)] (.int (zi (oGrist v F z u).1)) (oGrist v F z u).2 F C G R D M := by
  unfold oGrist
  by_cases c1 : 1 ≤ z ∧ z ≤ 100
  · by_cases c2 : 0 ≤ u ∧ u ≤ 3
    · rw [if_pos ⟨c1, c2⟩]
      by_cases c3 : v 16 = 40
      · rw [if_pos c3]
        refine XCl_p x (fun d K => ?_)
        have h0 := x.1.1
        simp (disch := omega) only [zen_112, e_112_0, e_112_1, e_112_2, e_112_4, e_112_7t, e_112_7f, e_112_10, e_112_11, e_112_12, e_112_13, e_112_16t, e_112_16f, e_112_19, e_112_21, e_112_22, e_112_23, e_112_26, e_112_28t, e_112_28f, e_112_31, e_112_33, e_112_34, e_112_35, e_112_36, e_112_39, e_112_40, e_112_41, e_112_44, e_112_45, e_112_46, e_112_47, e_112_49, e_112_51, e_112_53t, e_112_53f, e_112_56, e_112_57, e_112_59, e_112_61, e_112_63t, e_112_63f, e_112_66, e_112_67, e_112_70, e_112_72, e_112_74, e_112_75, e_112_78, e_112_79, e_112_82, e_112_83, e_112_86, e_112_87, e_112_90, e_112_93, e_112_94, e_112_97, e_112_98, e_112_101, e_112_103, e_112_104, e_112_105t, e_112_105f, e_112_108, e_112_109, e_112_111, e_112_114, e_112_117, e_112_118, e_112_120, e_112_121, e_112_122, e_112_125, e_112_128, e_112_131, e_112_134, e_112_135, zgf_8_1, zgf_8_10, zgf_8_2, zgf_8_3, zpf_8_10, zPa_some, zPn_some, zRK_some, zRK_none, zCk_t, zis_ob, zget_set_eq, zget_set_ne, zAld_10, zAld_11, zAst_10, zAst_11, zAlen_10, zAlen_11, zbd_t, zbd_f, zb_t, zb_f, zset_set, s_one0, s_one1, zis_so, h0, s_isWithin]
      · rw [if_neg c3]
        exact x_grist0 hS hA x ri z u ⟨c1, c2⟩ c3
    · rw [if_neg (fun q => c2 q.2)]
      refine XCl_p x (fun d K => ?_)
      simp (disch := omega) only [zen_112, e_112_0, e_112_1, e_112_2, e_112_4, e_112_7t, e_112_7f, e_112_10, e_112_11, e_112_12, e_112_13, e_112_16t, e_112_16f, e_112_19, e_112_21, e_112_22, e_112_23, e_112_26, e_112_28t, e_112_28f, e_112_31, e_112_33, e_112_34, e_112_35, e_112_36, e_112_39, e_112_40, e_112_41, e_112_44, e_112_45, e_112_46, e_112_47, e_112_49, e_112_51, e_112_53t, e_112_53f, e_112_56, e_112_57, e_112_59, e_112_61, e_112_63t, e_112_63f, e_112_66, e_112_67, e_112_70, e_112_72, e_112_74, e_112_75, e_112_78, e_112_79, e_112_82, e_112_83, e_112_86, e_112_87, e_112_90, e_112_93, e_112_94, e_112_97, e_112_98, e_112_101, e_112_103, e_112_104, e_112_105t, e_112_105f, e_112_108, e_112_109, e_112_111, e_112_114, e_112_117, e_112_118, e_112_120, e_112_121, e_112_122, e_112_125, e_112_128, e_112_131, e_112_134, e_112_135, zgf_8_1, zgf_8_10, zgf_8_2, zgf_8_3, zpf_8_10, zPa_some, zPn_some, zRK_some, zRK_none, zCk_t, zis_ob, zget_set_eq, zget_set_ne, zAld_10, zAld_11, zAst_10, zAst_11, zAlen_10, zAlen_11, zbd_t, zbd_f, zb_t, zb_f, zset_set, s_one0, s_one1, zis_so, s_isWithin]
  · rw [if_neg (fun q => c1 q.1)]
    refine XCl_p x (fun d K => ?_)
    simp (disch := omega) only [zen_112, e_112_0, e_112_1, e_112_2, e_112_4, e_112_7t, e_112_7f, e_112_10, e_112_11, e_112_12, e_112_13, e_112_16t, e_112_16f, e_112_19, e_112_21, e_112_22, e_112_23, e_112_26, e_112_28t, e_112_28f, e_112_31, e_112_33, e_112_34, e_112_35, e_112_36, e_112_39, e_112_40, e_112_41, e_112_44, e_112_45, e_112_46, e_112_47, e_112_49, e_112_51, e_112_53t, e_112_53f, e_112_56, e_112_57, e_112_59, e_112_61, e_112_63t, e_112_63f, e_112_66, e_112_67, e_112_70, e_112_72, e_112_74, e_112_75, e_112_78, e_112_79, e_112_82, e_112_83, e_112_86, e_112_87, e_112_90, e_112_93, e_112_94, e_112_97, e_112_98, e_112_101, e_112_103, e_112_104, e_112_105t, e_112_105f, e_112_108, e_112_109, e_112_111, e_112_114, e_112_117, e_112_118, e_112_120, e_112_121, e_112_122, e_112_125, e_112_128, e_112_131, e_112_134, e_112_135, zgf_8_1, zgf_8_10, zgf_8_2, zgf_8_3, zpf_8_10, zPa_some, zPn_some, zRK_some, zRK_none, zCk_t, zis_ob, zget_set_eq, zget_set_ne, zAld_10, zAld_11, zAst_10, zAst_11, zAlen_10, zAlen_11, zbd_t, zbd_f, zb_t, zb_f, zset_set, s_one0, s_one1, zis_so, s_isWithin]
/-! the reference's sums, and why they are the same -/
def grM (v : Nat → Int) (F : Int → Bool) (z u : Int) (n : Nat) (k s : Int) : Int := zfor (fun k s => opA u s (pt v F z u (k % 24) (6 * (k / 24)))) n k s
theorem zfor_addd {g h : Int → Int} : ∀ (n : Nat) (i s t : Int), zfor (fun a s => s + (g a + h a)) n i (s + t) = zfor (fun a s => s + g a) n i s + zfor (fun a s => s + h a) n i t := by
  intro n
  induction n with
  | zero => intro i s t; rfl
  | succ n ih =>
    intro i s t
    rw [zfor_s, zfor_s, zfor_s, ← ih]
    congr 1
    omega
theorem gr_two (g : wRv v) {z u : Int} (hz : 1 ≤ z ∧ z ≤ 100) : zfor (grX v F z u) 24 0 0 = grM v F z u 96 0 0 := by
  unfold grM
  have nest := zfor_nest (f := fun k s => opA u s (pt v F z u (k % 24) (6 * (k / 24)))) 4 0 0
  rw [show (4 * 24 : Nat) = 96 from rfl, Int.zero_mul] at nest
  rw [← nest]
  have inner : ∀ r t, zfor (fun a t => opA u t (pt v F z u ((r * 24 + a) % 24) (6 * ((r * 24 + a) / 24)))) 24 0 t = zfor (fun a t => opA u t (pt v F z u a (6 * r))) 24 0 t := fun r t => zfor_congr 24 0 t (fun a s h1 h2 => by rw [show (r * 24 + a) % 24 = a by omega, show (r * 24 + a) / 24 = r by omega])
  show _ = zfor (fun a t => opA u t (pt v F z u ((3 * 24 + a) % 24) (6 * ((3 * 24 + a) / 24)))) 24 0 (zfor (fun a t => opA u t (pt v F z u ((2 * 24 + a) % 24) (6 * ((2 * 24 + a) / 24)))) 24 0 (zfor (fun a t => opA u t (pt v F z u ((1 * 24 + a) % 24) (6 * ((1 * 24 + a) / 24)))) 24 0 (zfor (fun a t => opA u t (pt v F z u ((0 * 24 + a) % 24) (6 * ((0 * 24 + a) / 24)))) 24 0 0)))
  rw [inner, inner, inner, inner]
  rw [show (6 * 3 : Int) = 18 from rfl, show (6 * 2 : Int) = 12 from rfl, show (6 * 1 : Int) = 6 from rfl, show (6 * 0 : Int) = 0 from rfl]
  by_cases u3 : u = 3
  · subst u3
    unfold grX opA
    simp only [if_true]
    have key : ∀ y, zfor (fun a s => max (max (max (max s (pt v F z 3 a 0)) (pt v F z 3 a 6)) (pt v F z 3 a 12)) (pt v F z 3 a 18)) 24 0 0 ≤ y ↔ zfor (fun a t => max t (pt v F z 3 a 18)) 24 0 (zfor (fun a t => max t (pt v F z 3 a 12)) 24 0 (zfor (fun a t => max t (pt v F z 3 a 6)) 24 0 (zfor (fun a t => max t (pt v F z 3 a 0)) 24 0 0))) ≤ y := by
      intro y
      rw [zfor_pred (Q := fun s => s ≤ y) (P := fun a => pt v F z 3 a 0 ≤ y ∧ pt v F z 3 a 6 ≤ y ∧ pt v F z 3 a 12 ≤ y ∧ pt v F z 3 a 18 ≤ y) 24 0 0 (fun a s _ _ => by omega)]
      rw [zfor_pred (Q := fun s => s ≤ y) (P := fun a => pt v F z 3 a 18 ≤ y) 24 0 _ (fun a s _ _ => by omega), zfor_pred (Q := fun s => s ≤ y) (P := fun a => pt v F z 3 a 12 ≤ y) 24 0 _ (fun a s _ _ => by omega), zfor_pred (Q := fun s => s ≤ y) (P := fun a => pt v F z 3 a 6 ≤ y) 24 0 _ (fun a s _ _ => by omega), zfor_pred (Q := fun s => s ≤ y) (P := fun a => pt v F z 3 a 0 ≤ y) 24 0 _ (fun a s _ _ => by omega)]
      constructor
      · rintro ⟨q, p⟩
        exact ⟨⟨⟨⟨q, fun a h1 h2 => (p a h1 h2).1⟩, fun a h1 h2 => (p a h1 h2).2.1⟩, fun a h1 h2 => (p a h1 h2).2.2.1⟩, fun a h1 h2 => (p a h1 h2).2.2.2⟩
      · rintro ⟨⟨⟨⟨q, p0⟩, p1⟩, p2⟩, p3⟩
        exact ⟨q, fun a h1 h2 => ⟨p0 a h1 h2, p1 a h1 h2, p2 a h1 h2, p3 a h1 h2⟩⟩
    have k1 := (key _).mp (Int.le_refl _)
    have k2 := (key _).mpr (Int.le_refl _)
    omega
  · unfold grX opA
    simp only [u3, if_false]
    have e1 : zfor (fun a s => s + pt v F z u a 0 + pt v F z u a 6 + pt v F z u a 12 + pt v F z u a 18) 24 0 0 = zfor (fun a s => s + (((pt v F z u a 0 + pt v F z u a 6) + pt v F z u a 12) + pt v F z u a 18)) 24 0 (((0 + 0) + 0) + 0) := by
      refine zfor_congr 24 0 0 (fun a s _ _ => by omega)
    rw [e1, zfor_addd, zfor_addd, zfor_addd]
    rw [zfor_add (g := fun a => pt v F z u a 18) 24 0 (zfor _ _ _ _), zfor_add (g := fun a => pt v F z u a 12) 24 0 (zfor _ _ _ _), zfor_add (g := fun a => pt v F z u a 6) 24 0 (zfor _ _ _ _)]
theorem grM_s {z u k s : Int} {n : Nat} : grM v F z u (n + 1) k s = grM v F z u n (k + 1) (opA u s (pt v F z u (k % 24) (6 * (k / 24)))) := rfl
def ga (v : Nat → Int) (F : Int → Bool) (z u : Int) (n : Nat) (k o y m x : Int) : Int := if u = 0 then grM v F z 0 n k o else if u = 1 then grM v F z 1 n k y else if u = 2 then grM v F z 2 n k m else grM v F z 3 n k x
theorem lm_182 (rv : RV v) (z u : Int) (h : 1 ≤ z ∧ z ≤ 100 ∧ 0 ≤ u ∧ u ≤ 3) : ∀ (n : Nat) (k o y m x : Int) (w : Nat → Int) (M : zM), zAg w v → zget M c = some (zMo c w) → zget M (c + 1) = some (zAb 768 F) → k + n = 96 → 0 ≤ k → (0 ≤ x ∧ x ≤ 100) → ∃ w', zAg w' v ∧ ∀ (d : Nat) (K : zK), Ev (d + 6) 182 67 [some (.ref c), some (.int (zi z)), some (.int (zi u)), some (.int (zi o)), some (.int (zi y)), some (.int (zi m)), some (.int (zi x)), some (.int (zi k))] [.int (zi 96), .int (zi k)] M K = K (some (.int (zi (ga v F z u n k o y m x)))) (zset M c (zMo c w')) := by
  intro n
  induction n with
  | zero =>
    intro k o y m x w M ha h0 h1 hk q0 hx
    refine ⟨w, ha, fun d K => ?_⟩
    rw [zset_same h0]
    unfold ga grM
    by_cases u0 : u = 0
    · rw [if_pos u0]
      simp (disch := omega) only [zgm_0, zgm_1, zgm_2, zgm_3, zgm_4, zgm_5, zgm_6, zgm_7, zgm_8, zgm_9, zgm_10, zgm_11, zgm_12, zgm_13, zgm_14, zgm_15, zgm_16, zgm_17, zgm_18, zgm_19, zgm_20, zgm_21, zgm_22, zgm_23, zgm_24, zgm_25, zgm_26, zgm_27, zgm_28, zgm_29, zgm_30, zgm_31, zgm_32, zgm_33, zgm_34, zgm_35, zgm_36, zgm_37, zpm_4, zpm_5, zpm_6, zpm_7, zpm_8, zpm_9, zpm_10, zpm_11, zpm_12, zpm_13, zpm_14, zpm_15, zpm_16, zpm_17, zpm_18, zpm_22, zpm_23, zpm_31, zpm_32, zpm_36, zis_mo, zuN_eq, zuN_ne, zen_182, e_182_0, e_182_1, e_182_2, e_182_3, e_182_6, e_182_9t, e_182_9f, e_182_12, e_182_13, e_182_14, e_182_15, e_182_18, e_182_21t, e_182_21f, e_182_24, e_182_26, e_182_27, e_182_28, e_182_31, e_182_33t, e_182_33f, e_182_36, e_182_38, e_182_39, e_182_40, e_182_41, e_182_44, e_182_45, e_182_46, e_182_49, e_182_50, e_182_51, e_182_52, e_182_54, e_182_55, e_182_57, e_182_58, e_182_60, e_182_61, e_182_63, e_182_65, e_182_67t, e_182_67f, e_182_70, e_182_71, e_182_73, e_182_75, e_182_76, e_182_78, e_182_80, e_182_82, e_182_83, e_182_84, e_182_85, e_182_88, e_182_90, e_182_91, e_182_94, e_182_95, e_182_97, e_182_98, e_182_101, e_182_103t, e_182_103f, e_182_106, e_182_109, e_182_111, e_182_112, e_182_115, e_182_116, e_182_118, e_182_119, e_182_122, e_182_124t, e_182_124f, e_182_127, e_182_128, e_182_131, e_182_134, e_182_136, e_182_138, e_182_141, e_182_144, e_182_145t, e_182_145f, e_182_148, e_182_149, e_182_152, e_182_153, e_182_154t, e_182_154f, e_182_157, e_182_159, e_182_162, e_182_163, e_182_164t, e_182_164f, e_182_167, e_182_169, e_182_172, e_182_174, zPa_some, zPn_some, zRK_some, zRK_none, zCk_t, zis_ob, zget_set_eq, zget_set_ne, zAld_10, zAld_11, zAst_10, zAst_11, zAlen_10, zAlen_11, zbd_t, zbd_f, zb_t, zb_f, zset_set, s_one0, s_one1, zis_so, zfor_0]
    · rw [if_neg u0]
      by_cases u1 : u = 1
      · rw [if_pos u1]
        simp (disch := omega) only [zgm_0, zgm_1, zgm_2, zgm_3, zgm_4, zgm_5, zgm_6, zgm_7, zgm_8, zgm_9, zgm_10, zgm_11, zgm_12, zgm_13, zgm_14, zgm_15, zgm_16, zgm_17, zgm_18, zgm_19, zgm_20, zgm_21, zgm_22, zgm_23, zgm_24, zgm_25, zgm_26, zgm_27, zgm_28, zgm_29, zgm_30, zgm_31, zgm_32, zgm_33, zgm_34, zgm_35, zgm_36, zgm_37, zpm_4, zpm_5, zpm_6, zpm_7, zpm_8, zpm_9, zpm_10, zpm_11, zpm_12, zpm_13, zpm_14, zpm_15, zpm_16, zpm_17, zpm_18, zpm_22, zpm_23, zpm_31, zpm_32, zpm_36, zis_mo, zuN_eq, zuN_ne, zen_182, e_182_0, e_182_1, e_182_2, e_182_3, e_182_6, e_182_9t, e_182_9f, e_182_12, e_182_13, e_182_14, e_182_15, e_182_18, e_182_21t, e_182_21f, e_182_24, e_182_26, e_182_27, e_182_28, e_182_31, e_182_33t, e_182_33f, e_182_36, e_182_38, e_182_39, e_182_40, e_182_41, e_182_44, e_182_45, e_182_46, e_182_49, e_182_50, e_182_51, e_182_52, e_182_54, e_182_55, e_182_57, e_182_58, e_182_60, e_182_61, e_182_63, e_182_65, e_182_67t, e_182_67f, e_182_70, e_182_71, e_182_73, e_182_75, e_182_76, e_182_78, e_182_80, e_182_82, e_182_83, e_182_84, e_182_85, e_182_88, e_182_90, e_182_91, e_182_94, e_182_95, e_182_97, e_182_98, e_182_101, e_182_103t, e_182_103f, e_182_106, e_182_109, e_182_111, e_182_112, e_182_115, e_182_116, e_182_118, e_182_119, e_182_122, e_182_124t, e_182_124f, e_182_127, e_182_128, e_182_131, e_182_134, e_182_136, e_182_138, e_182_141, e_182_144, e_182_145t, e_182_145f, e_182_148, e_182_149, e_182_152, e_182_153, e_182_154t, e_182_154f, e_182_157, e_182_159, e_182_162, e_182_163, e_182_164t, e_182_164f, e_182_167, e_182_169, e_182_172, e_182_174, zPa_some, zPn_some, zRK_some, zRK_none, zCk_t, zis_ob, zget_set_eq, zget_set_ne, zAld_10, zAld_11, zAst_10, zAst_11, zAlen_10, zAlen_11, zbd_t, zbd_f, zb_t, zb_f, zset_set, s_one0, s_one1, zis_so, zfor_0]
      · rw [if_neg u1]
        by_cases u2 : u = 2
        · rw [if_pos u2]
          simp (disch := omega) only [zgm_0, zgm_1, zgm_2, zgm_3, zgm_4, zgm_5, zgm_6, zgm_7, zgm_8, zgm_9, zgm_10, zgm_11, zgm_12, zgm_13, zgm_14, zgm_15, zgm_16, zgm_17, zgm_18, zgm_19, zgm_20, zgm_21, zgm_22, zgm_23, zgm_24, zgm_25, zgm_26, zgm_27, zgm_28, zgm_29, zgm_30, zgm_31, zgm_32, zgm_33, zgm_34, zgm_35, zgm_36, zgm_37, zpm_4, zpm_5, zpm_6, zpm_7, zpm_8, zpm_9, zpm_10, zpm_11, zpm_12, zpm_13, zpm_14, zpm_15, zpm_16, zpm_17, zpm_18, zpm_22, zpm_23, zpm_31, zpm_32, zpm_36, zis_mo, zuN_eq, zuN_ne, zen_182, e_182_0, e_182_1, e_182_2, e_182_3, e_182_6, e_182_9t, e_182_9f, e_182_12, e_182_13, e_182_14, e_182_15, e_182_18, e_182_21t, e_182_21f, e_182_24, e_182_26, e_182_27, e_182_28, e_182_31, e_182_33t, e_182_33f, e_182_36, e_182_38, e_182_39, e_182_40, e_182_41, e_182_44, e_182_45, e_182_46, e_182_49, e_182_50, e_182_51, e_182_52, e_182_54, e_182_55, e_182_57, e_182_58, e_182_60, e_182_61, e_182_63, e_182_65, e_182_67t, e_182_67f, e_182_70, e_182_71, e_182_73, e_182_75, e_182_76, e_182_78, e_182_80, e_182_82, e_182_83, e_182_84, e_182_85, e_182_88, e_182_90, e_182_91, e_182_94, e_182_95, e_182_97, e_182_98, e_182_101, e_182_103t, e_182_103f, e_182_106, e_182_109, e_182_111, e_182_112, e_182_115, e_182_116, e_182_118, e_182_119, e_182_122, e_182_124t, e_182_124f, e_182_127, e_182_128, e_182_131, e_182_134, e_182_136, e_182_138, e_182_141, e_182_144, e_182_145t, e_182_145f, e_182_148, e_182_149, e_182_152, e_182_153, e_182_154t, e_182_154f, e_182_157, e_182_159, e_182_162, e_182_163, e_182_164t, e_182_164f, e_182_167, e_182_169, e_182_172, e_182_174, zPa_some, zPn_some, zRK_some, zRK_none, zCk_t, zis_ob, zget_set_eq, zget_set_ne, zAld_10, zAld_11, zAst_10, zAst_11, zAlen_10, zAlen_11, zbd_t, zbd_f, zb_t, zb_f, zset_set, s_one0, s_one1, zis_so, zfor_0]
        · rw [if_neg u2]
          simp (disch := omega) only [zgm_0, zgm_1, zgm_2, zgm_3, zgm_4, zgm_5, zgm_6, zgm_7, zgm_8, zgm_9, zgm_10, zgm_11, zgm_12, zgm_13, zgm_14, zgm_15, zgm_16, zgm_17, zgm_18, zgm_19, zgm_20, zgm_21, zgm_22, zgm_23, zgm_24, zgm_25, zgm_26, zgm_27, zgm_28, zgm_29, zgm_30, zgm_31, zgm_32, zgm_33, zgm_34, zgm_35, zgm_36, zgm_37, zpm_4, zpm_5, zpm_6, zpm_7, zpm_8, zpm_9, zpm_10, zpm_11, zpm_12, zpm_13, zpm_14, zpm_15, zpm_16, zpm_17, zpm_18, zpm_22, zpm_23, zpm_31, zpm_32, zpm_36, zis_mo, zuN_eq, zuN_ne, zen_182, e_182_0, e_182_1, e_182_2, e_182_3, e_182_6, e_182_9t, e_182_9f, e_182_12, e_182_13, e_182_14, e_182_15, e_182_18, e_182_21t, e_182_21f, e_182_24, e_182_26, e_182_27, e_182_28, e_182_31, e_182_33t, e_182_33f, e_182_36, e_182_38, e_182_39, e_182_40, e_182_41, e_182_44, e_182_45, e_182_46, e_182_49, e_182_50, e_182_51, e_182_52, e_182_54, e_182_55, e_182_57, e_182_58, e_182_60, e_182_61, e_182_63, e_182_65, e_182_67t, e_182_67f, e_182_70, e_182_71, e_182_73, e_182_75, e_182_76, e_182_78, e_182_80, e_182_82, e_182_83, e_182_84, e_182_85, e_182_88, e_182_90, e_182_91, e_182_94, e_182_95, e_182_97, e_182_98, e_182_101, e_182_103t, e_182_103f, e_182_106, e_182_109, e_182_111, e_182_112, e_182_115, e_182_116, e_182_118, e_182_119, e_182_122, e_182_124t, e_182_124f, e_182_127, e_182_128, e_182_131, e_182_134, e_182_136, e_182_138, e_182_141, e_182_144, e_182_145t, e_182_145f, e_182_148, e_182_149, e_182_152, e_182_153, e_182_154t, e_182_154f, e_182_157, e_182_159, e_182_162, e_182_163, e_182_164t, e_182_164f, e_182_167, e_182_169, e_182_172, e_182_174, zPa_some, zPn_some, zRK_some, zRK_none, zCk_t, zis_ob, zget_set_eq, zget_set_ne, zAld_10, zAld_11, zAst_10, zAst_11, zAlen_10, zAlen_11, zbd_t, zbd_f, zb_t, zb_f, zset_set, s_one0, s_one1, zis_so, zfor_0]
  | succ n ih =>
    intro k o y m x w M ha h0 h1 hk q0 hx
    have e := s_sendM ha rv h0 h1
    have rw' := wy_rng (F := F) (RV_w rv) (a := k % 24) (t := 6 * (k / 24)) (z := z) (by omega)
    have d1 := zdiv_f (x := k) (y := 24) (by omega)
    have d2 := zmod_f (x := k) (y := 24) (by omega)
    have p3 := pt3_rng (F := F) (RV_w rv) (z := z) (a := k % 24) (t := 6 * (k / 24)) (by omega)
    obtain ⟨w', ha', hw⟩ := ih (k + 1) (opA 0 o (pt v F z 0 (k % 24) (6 * (k / 24)))) (opA 1 y (pt v F z 1 (k % 24) (6 * (k / 24)))) (opA 2 m (pt v F z 2 (k % 24) (6 * (k / 24)))) (opA 3 x (pt v F z 3 (k % 24) (6 * (k / 24)))) (wW w (wy v F (k % 24) (6 * (k / 24)) z)) (zset M c (zMo c (wW w (wy v F (k % 24) (6 * (k / 24)) z)))) (wW_ag ha) zget_set_eq ((zget_set_ne (by omega)).trans h1) (by omega) (by omega) (by unfold opA; rw [if_pos rfl]; omega)
    refine ⟨w', ha', fun d K => ?_⟩
    rw [show ga v F z u (n + 1) k o y m x = ga v F z u n (k + 1) (opA 0 o (pt v F z 0 (k % 24) (6 * (k / 24)))) (opA 1 y (pt v F z 1 (k % 24) (6 * (k / 24)))) (opA 2 m (pt v F z 2 (k % 24) (6 * (k / 24)))) (opA 3 x (pt v F z 3 (k % 24) (6 * (k / 24)))) from rfl]
    have hw2 := hw d K
    rw [zset_set] at hw2
    rw [← hw2]
    unfold opA pt
    rw [if_neg (show ¬ (0 : Int) = 3 by decide), if_neg (show ¬ (1 : Int) = 3 by decide), if_neg (show ¬ (2 : Int) = 3 by decide), if_pos (show (3 : Int) = 3 from rfl)]
    rw [if_neg (show ¬ (0 : Int) = 2 by decide), if_neg (show ¬ (1 : Int) = 2 by decide), if_pos (show (2 : Int) = 2 from rfl), if_neg (show ¬ (3 : Int) = 2 by decide)]
    rw [if_pos (show (0 : Int) = 0 from rfl), if_neg (show ¬ (1 : Int) = 0 by decide), if_neg (show ¬ (3 : Int) = 0 by decide)]
    unfold wW at e ⊢
    by_cases q : (wy v F (k % 24) (6 * (k / 24)) z).1 = 8
    · rw [if_pos q, if_pos q]
      by_cases q2 : x < (wy v F (k % 24) (6 * (k / 24)) z).2.2.1
      · rw [show max x (wy v F (k % 24) (6 * (k / 24)) z).2.2.1 = (wy v F (k % 24) (6 * (k / 24)) z).2.2.1 by omega]
        simp (disch := omega) only [zgm_0, zgm_1, zgm_2, zgm_3, zgm_4, zgm_5, zgm_6, zgm_7, zgm_8, zgm_9, zgm_10, zgm_11, zgm_12, zgm_13, zgm_14, zgm_15, zgm_16, zgm_17, zgm_18, zgm_19, zgm_20, zgm_21, zgm_22, zgm_23, zgm_24, zgm_25, zgm_26, zgm_27, zgm_28, zgm_29, zgm_30, zgm_31, zgm_32, zgm_33, zgm_34, zgm_35, zgm_36, zgm_37, zpm_4, zpm_5, zpm_6, zpm_7, zpm_8, zpm_9, zpm_10, zpm_11, zpm_12, zpm_13, zpm_14, zpm_15, zpm_16, zpm_17, zpm_18, zpm_22, zpm_23, zpm_31, zpm_32, zpm_36, zis_mo, zuN_eq, zuN_ne, zen_182, e_182_0, e_182_1, e_182_2, e_182_3, e_182_6, e_182_9t, e_182_9f, e_182_12, e_182_13, e_182_14, e_182_15, e_182_18, e_182_21t, e_182_21f, e_182_24, e_182_26, e_182_27, e_182_28, e_182_31, e_182_33t, e_182_33f, e_182_36, e_182_38, e_182_39, e_182_40, e_182_41, e_182_44, e_182_45, e_182_46, e_182_49, e_182_50, e_182_51, e_182_52, e_182_54, e_182_55, e_182_57, e_182_58, e_182_60, e_182_61, e_182_63, e_182_65, e_182_67t, e_182_67f, e_182_70, e_182_71, e_182_73, e_182_75, e_182_76, e_182_78, e_182_80, e_182_82, e_182_83, e_182_84, e_182_85, e_182_88, e_182_90, e_182_91, e_182_94, e_182_95, e_182_97, e_182_98, e_182_101, e_182_103t, e_182_103f, e_182_106, e_182_109, e_182_111, e_182_112, e_182_115, e_182_116, e_182_118, e_182_119, e_182_122, e_182_124t, e_182_124f, e_182_127, e_182_128, e_182_131, e_182_134, e_182_136, e_182_138, e_182_141, e_182_144, e_182_145t, e_182_145f, e_182_148, e_182_149, e_182_152, e_182_153, e_182_154t, e_182_154f, e_182_157, e_182_159, e_182_162, e_182_163, e_182_164t, e_182_164f, e_182_167, e_182_169, e_182_172, e_182_174, zPa_some, zPn_some, zRK_some, zRK_none, zCk_t, zis_ob, zget_set_eq, zget_set_ne, zAld_10, zAld_11, zAst_10, zAst_11, zAlen_10, zAlen_11, zbd_t, zbd_f, zb_t, zb_f, zset_set, s_one0, s_one1, zis_so, h0, d1, d2, e, wS_10, wS_11, wS_12, wS_13, wS_14, wS_15]
      · rw [show max x (wy v F (k % 24) (6 * (k / 24)) z).2.2.1 = x by omega]
        simp (disch := omega) only [zgm_0, zgm_1, zgm_2, zgm_3, zgm_4, zgm_5, zgm_6, zgm_7, zgm_8, zgm_9, zgm_10, zgm_11, zgm_12, zgm_13, zgm_14, zgm_15, zgm_16, zgm_17, zgm_18, zgm_19, zgm_20, zgm_21, zgm_22, zgm_23, zgm_24, zgm_25, zgm_26, zgm_27, zgm_28, zgm_29, zgm_30, zgm_31, zgm_32, zgm_33, zgm_34, zgm_35, zgm_36, zgm_37, zpm_4, zpm_5, zpm_6, zpm_7, zpm_8, zpm_9, zpm_10, zpm_11, zpm_12, zpm_13, zpm_14, zpm_15, zpm_16, zpm_17, zpm_18, zpm_22, zpm_23, zpm_31, zpm_32, zpm_36, zis_mo, zuN_eq, zuN_ne, zen_182, e_182_0, e_182_1, e_182_2, e_182_3, e_182_6, e_182_9t, e_182_9f, e_182_12, e_182_13, e_182_14, e_182_15, e_182_18, e_182_21t, e_182_21f, e_182_24, e_182_26, e_182_27, e_182_28, e_182_31, e_182_33t, e_182_33f, e_182_36, e_182_38, e_182_39, e_182_40, e_182_41, e_182_44, e_182_45, e_182_46, e_182_49, e_182_50, e_182_51, e_182_52, e_182_54, e_182_55, e_182_57, e_182_58, e_182_60, e_182_61, e_182_63, e_182_65, e_182_67t, e_182_67f, e_182_70, e_182_71, e_182_73, e_182_75, e_182_76, e_182_78, e_182_80, e_182_82, e_182_83, e_182_84, e_182_85, e_182_88, e_182_90, e_182_91, e_182_94, e_182_95, e_182_97, e_182_98, e_182_101, e_182_103t, e_182_103f, e_182_106, e_182_109, e_182_111, e_182_112, e_182_115, e_182_116, e_182_118, e_182_119, e_182_122, e_182_124t, e_182_124f, e_182_127, e_182_128, e_182_131, e_182_134, e_182_136, e_182_138, e_182_141, e_182_144, e_182_145t, e_182_145f, e_182_148, e_182_149, e_182_152, e_182_153, e_182_154t, e_182_154f, e_182_157, e_182_159, e_182_162, e_182_163, e_182_164t, e_182_164f, e_182_167, e_182_169, e_182_172, e_182_174, zPa_some, zPn_some, zRK_some, zRK_none, zCk_t, zis_ob, zget_set_eq, zget_set_ne, zAld_10, zAld_11, zAst_10, zAst_11, zAlen_10, zAlen_11, zbd_t, zbd_f, zb_t, zb_f, zset_set, s_one0, s_one1, zis_so, h0, d1, d2, e, wS_10, wS_11, wS_12, wS_13, wS_14, wS_15]
    · rw [if_neg q, if_neg q, show max x 0 = x by omega, Int.add_zero, Int.add_zero]
      simp (disch := omega) only [zgm_0, zgm_1, zgm_2, zgm_3, zgm_4, zgm_5, zgm_6, zgm_7, zgm_8, zgm_9, zgm_10, zgm_11, zgm_12, zgm_13, zgm_14, zgm_15, zgm_16, zgm_17, zgm_18, zgm_19, zgm_20, zgm_21, zgm_22, zgm_23, zgm_24, zgm_25, zgm_26, zgm_27, zgm_28, zgm_29, zgm_30, zgm_31, zgm_32, zgm_33, zgm_34, zgm_35, zgm_36, zgm_37, zpm_4, zpm_5, zpm_6, zpm_7, zpm_8, zpm_9, zpm_10, zpm_11, zpm_12, zpm_13, zpm_14, zpm_15, zpm_16, zpm_17, zpm_18, zpm_22, zpm_23, zpm_31, zpm_32, zpm_36, zis_mo, zuN_eq, zuN_ne, zen_182, e_182_0, e_182_1, e_182_2, e_182_3, e_182_6, e_182_9t, e_182_9f, e_182_12, e_182_13, e_182_14, e_182_15, e_182_18, e_182_21t, e_182_21f, e_182_24, e_182_26, e_182_27, e_182_28, e_182_31, e_182_33t, e_182_33f, e_182_36, e_182_38, e_182_39, e_182_40, e_182_41, e_182_44, e_182_45, e_182_46, e_182_49, e_182_50, e_182_51, e_182_52, e_182_54, e_182_55, e_182_57, e_182_58, e_182_60, e_182_61, e_182_63, e_182_65, e_182_67t, e_182_67f, e_182_70, e_182_71, e_182_73, e_182_75, e_182_76, e_182_78, e_182_80, e_182_82, e_182_83, e_182_84, e_182_85, e_182_88, e_182_90, e_182_91, e_182_94, e_182_95, e_182_97, e_182_98, e_182_101, e_182_103t, e_182_103f, e_182_106, e_182_109, e_182_111, e_182_112, e_182_115, e_182_116, e_182_118, e_182_119, e_182_122, e_182_124t, e_182_124f, e_182_127, e_182_128, e_182_131, e_182_134, e_182_136, e_182_138, e_182_141, e_182_144, e_182_145t, e_182_145f, e_182_148, e_182_149, e_182_152, e_182_153, e_182_154t, e_182_154f, e_182_157, e_182_159, e_182_162, e_182_163, e_182_164t, e_182_164f, e_182_167, e_182_169, e_182_172, e_182_174, zPa_some, zPn_some, zRK_some, zRK_none, zCk_t, zis_ob, zget_set_eq, zget_set_ne, zAld_10, zAld_11, zAst_10, zAst_11, zAlen_10, zAlen_11, zbd_t, zbd_f, zb_t, zb_f, zset_set, s_one0, s_one1, zis_so, h0, d1, d2, e, wS_10, wS_11, wS_12, wS_13, wS_14, wS_15]
theorem m_grist (x : MI c v F C G R D M) (ri : RI v G R D) (z u : Int) (h : -2147483648 ≤ z ∧ z < 2147483648 ∧ -2147483648 ≤ u ∧ u < 2147483648) : MCl c 11 182 [.ref c, .int (zi z), .int (zi u)] (.int (zi (oGrist v F z u).1)) (oGrist v F z u).2 F C G R D M := by
  unfold oGrist
  by_cases c1 : 1 ≤ z ∧ z ≤ 100
  · by_cases c2 : 0 ≤ u ∧ u ≤ 3
    · rw [if_pos ⟨c1, c2⟩]
      have r := ri.1.2.2.1
      by_cases c3 : v 16 = 40
      · rw [if_pos c3]
        refine MCl_p x (fun d K => ?_)
        obtain ⟨w, ha, h0, -⟩ := x
        have a16 := ha 16 (by omega)
        simp (disch := omega) only [zgm_0, zgm_1, zgm_2, zgm_3, zgm_4, zgm_5, zgm_6, zgm_7, zgm_8, zgm_9, zgm_10, zgm_11, zgm_12, zgm_13, zgm_14, zgm_15, zgm_16, zgm_17, zgm_18, zgm_19, zgm_20, zgm_21, zgm_22, zgm_23, zgm_24, zgm_25, zgm_26, zgm_27, zgm_28, zgm_29, zgm_30, zgm_31, zgm_32, zgm_33, zgm_34, zgm_35, zgm_36, zgm_37, zpm_4, zpm_5, zpm_6, zpm_7, zpm_8, zpm_9, zpm_10, zpm_11, zpm_12, zpm_13, zpm_14, zpm_15, zpm_16, zpm_17, zpm_18, zpm_22, zpm_23, zpm_31, zpm_32, zpm_36, zis_mo, zuN_eq, zuN_ne, zen_182, e_182_0, e_182_1, e_182_2, e_182_3, e_182_6, e_182_9t, e_182_9f, e_182_12, e_182_13, e_182_14, e_182_15, e_182_18, e_182_21t, e_182_21f, e_182_24, e_182_26, e_182_27, e_182_28, e_182_31, e_182_33t, e_182_33f, e_182_36, e_182_38, e_182_39, e_182_40, e_182_41, e_182_44, e_182_45, e_182_46, e_182_49, e_182_50, e_182_51, e_182_52, e_182_54, e_182_55, e_182_57, e_182_58, e_182_60, e_182_61, e_182_63, e_182_65, e_182_67t, e_182_67f, e_182_70, e_182_71, e_182_73, e_182_75, e_182_76, e_182_78, e_182_80, e_182_82, e_182_83, e_182_84, e_182_85, e_182_88, e_182_90, e_182_91, e_182_94, e_182_95, e_182_97, e_182_98, e_182_101, e_182_103t, e_182_103f, e_182_106, e_182_109, e_182_111, e_182_112, e_182_115, e_182_116, e_182_118, e_182_119, e_182_122, e_182_124t, e_182_124f, e_182_127, e_182_128, e_182_131, e_182_134, e_182_136, e_182_138, e_182_141, e_182_144, e_182_145t, e_182_145f, e_182_148, e_182_149, e_182_152, e_182_153, e_182_154t, e_182_154f, e_182_157, e_182_159, e_182_162, e_182_163, e_182_164t, e_182_164f, e_182_167, e_182_169, e_182_172, e_182_174, zPa_some, zPn_some, zRK_some, zRK_none, zCk_t, zis_ob, zget_set_eq, zget_set_ne, zAld_10, zAld_11, zAst_10, zAst_11, zAlen_10, zAlen_11, zbd_t, zbd_f, zb_t, zb_f, zset_set, s_one0, s_one1, zis_so, h0, a16, s_in]
      · rw [if_neg c3]
        obtain ⟨w, ha, h0, h1, h2, h3, ⟨A4, h4⟩, h5, h6, h7, h8, h9, h10, h11, h12, h13, h14, ⟨A15, h15⟩, ⟨A16, h16⟩, ⟨A17, h17⟩, A18, h18⟩ := x
        have a16 := ha 16 (by omega)
        have rv' : RV (zuN v 16 (v 16 + 1)) := ⟨ri.1.1, ri.1.2.1, ⟨by show 0 ≤ v 16 + 1; omega, by show v 16 + 1 ≤ 40; omega, ri.1.2.2.1.2.2⟩, ri.1.2.2.2⟩
        obtain ⟨w', ha', hw⟩ := lm_182 (c := c) (v := zuN v 16 (v 16 + 1)) (F := F) rv' z u (by omega) 96 0 0 0 0 0 (zuN w 16 (v 16 + 1)) (zset M c (zMo c (zuN w 16 (v 16 + 1)))) (zAg_up ha) zget_set_eq ((zget_set_ne (by omega)).trans h1) (by omega) (by omega) (by omega)
        refine ⟨_, fun d K => ?_, ⟨w', ha', zget_set_eq, (zget_set_ne (by omega)).trans h1, (zget_set_ne (by omega)).trans h2, (zget_set_ne (by omega)).trans h3, ⟨A4, (zget_set_ne (by omega)).trans h4⟩, (zget_set_ne (by omega)).trans h5, (zget_set_ne (by omega)).trans h6, (zget_set_ne (by omega)).trans h7, (zget_set_ne (by omega)).trans h8, (zget_set_ne (by omega)).trans h9, (zget_set_ne (by omega)).trans h10, (zget_set_ne (by omega)).trans h11, (zget_set_ne (by omega)).trans h12, (zget_set_ne (by omega)).trans h13, (zget_set_ne (by omega)).trans h14, ⟨A15, (zget_set_ne (by omega)).trans h15⟩, ⟨A16, (zget_set_ne (by omega)).trans h16⟩, ⟨A17, (zget_set_ne (by omega)).trans h17⟩, A18, (zget_set_ne (by omega)).trans h18⟩, zFr_set (by omega)⟩
        rw [gr_two (RV_w ri.1) c1]
        have e : ga (zuN v 16 (v 16 + 1)) F z u 96 0 0 0 0 0 = grM v F z u 96 0 0 := by
          unfold ga
          by_cases u0 : u = 0
          · rw [if_pos u0, u0]; rfl
          · rw [if_neg u0]
            by_cases u1 : u = 1
            · rw [if_pos u1, u1]; rfl
            · rw [if_neg u1]
              by_cases u2 : u = 2
              · rw [if_pos u2, u2]; rfl
              · rw [if_neg u2, show u = 3 by omega]; rfl
        have hw2 := hw (d + 4) K
        rw [e, zset_set] at hw2
        simp (disch := omega) only [zgm_0, zgm_1, zgm_2, zgm_3, zgm_4, zgm_5, zgm_6, zgm_7, zgm_8, zgm_9, zgm_10, zgm_11, zgm_12, zgm_13, zgm_14, zgm_15, zgm_16, zgm_17, zgm_18, zgm_19, zgm_20, zgm_21, zgm_22, zgm_23, zgm_24, zgm_25, zgm_26, zgm_27, zgm_28, zgm_29, zgm_30, zgm_31, zgm_32, zgm_33, zgm_34, zgm_35, zgm_36, zgm_37, zpm_4, zpm_5, zpm_6, zpm_7, zpm_8, zpm_9, zpm_10, zpm_11, zpm_12, zpm_13, zpm_14, zpm_15, zpm_16, zpm_17, zpm_18, zpm_22, zpm_23, zpm_31, zpm_32, zpm_36, zis_mo, zuN_eq, zuN_ne, zen_182, e_182_0, e_182_1, e_182_2, e_182_3, e_182_6, e_182_9t, e_182_9f, e_182_12, e_182_13, e_182_14, e_182_15, e_182_18, e_182_21t, e_182_21f, e_182_24, e_182_26, e_182_27, e_182_28, e_182_31, e_182_33t, e_182_33f, e_182_36, e_182_38, e_182_39, e_182_40, e_182_41, e_182_44, e_182_45, e_182_46, e_182_49, e_182_50, e_182_51, e_182_52, e_182_54, e_182_55, e_182_57, e_182_58, e_182_60, e_182_61, e_182_63, e_182_65, e_182_70, e_182_71, e_182_73, e_182_75, e_182_76, e_182_78, e_182_80, e_182_82, e_182_83, e_182_84, e_182_85, e_182_88, e_182_90, e_182_91, e_182_94, e_182_95, e_182_97, e_182_98, e_182_101, e_182_103t, e_182_103f, e_182_106, e_182_109, e_182_111, e_182_112, e_182_115, e_182_116, e_182_118, e_182_119, e_182_122, e_182_124t, e_182_124f, e_182_127, e_182_128, e_182_131, e_182_134, e_182_136, e_182_138, e_182_141, e_182_144, e_182_145t, e_182_145f, e_182_148, e_182_149, e_182_152, e_182_153, e_182_154t, e_182_154f, e_182_157, e_182_159, e_182_162, e_182_163, e_182_164t, e_182_164f, e_182_167, e_182_169, e_182_172, e_182_174, zPa_some, zPn_some, zRK_some, zRK_none, zCk_t, zis_ob, zget_set_eq, zget_set_ne, zAld_10, zAld_11, zAst_10, zAst_11, zAlen_10, zAlen_11, zbd_t, zbd_f, zb_t, zb_f, zset_set, s_one0, s_one1, zis_so, h0, a16, s_in]
        exact hw2
    · rw [if_neg (fun q => c2 q.2)]
      refine MCl_p x (fun d K => ?_)
      simp (disch := omega) only [zgm_0, zgm_1, zgm_2, zgm_3, zgm_4, zgm_5, zgm_6, zgm_7, zgm_8, zgm_9, zgm_10, zgm_11, zgm_12, zgm_13, zgm_14, zgm_15, zgm_16, zgm_17, zgm_18, zgm_19, zgm_20, zgm_21, zgm_22, zgm_23, zgm_24, zgm_25, zgm_26, zgm_27, zgm_28, zgm_29, zgm_30, zgm_31, zgm_32, zgm_33, zgm_34, zgm_35, zgm_36, zgm_37, zpm_4, zpm_5, zpm_6, zpm_7, zpm_8, zpm_9, zpm_10, zpm_11, zpm_12, zpm_13, zpm_14, zpm_15, zpm_16, zpm_17, zpm_18, zpm_22, zpm_23, zpm_31, zpm_32, zpm_36, zis_mo, zuN_eq, zuN_ne, zen_182, e_182_0, e_182_1, e_182_2, e_182_3, e_182_6, e_182_9t, e_182_9f, e_182_12, e_182_13, e_182_14, e_182_15, e_182_18, e_182_21t, e_182_21f, e_182_24, e_182_26, e_182_27, e_182_28, e_182_31, e_182_33t, e_182_33f, e_182_36, e_182_38, e_182_39, e_182_40, e_182_41, e_182_44, e_182_45, e_182_46, e_182_49, e_182_50, e_182_51, e_182_52, e_182_54, e_182_55, e_182_57, e_182_58, e_182_60, e_182_61, e_182_63, e_182_65, e_182_67t, e_182_67f, e_182_70, e_182_71, e_182_73, e_182_75, e_182_76, e_182_78, e_182_80, e_182_82, e_182_83, e_182_84, e_182_85, e_182_88, e_182_90, e_182_91, e_182_94, e_182_95, e_182_97, e_182_98, e_182_101, e_182_103t, e_182_103f, e_182_106, e_182_109, e_182_111, e_182_112, e_182_115, e_182_116, e_182_118, e_182_119, e_182_122, e_182_124t, e_182_124f, e_182_127, e_182_128, e_182_131, e_182_134, e_182_136, e_182_138, e_182_141, e_182_144, e_182_145t, e_182_145f, e_182_148, e_182_149, e_182_152, e_182_153, e_182_154t, e_182_154f, e_182_157, e_182_159, e_182_162, e_182_163, e_182_164t, e_182_164f, e_182_167, e_182_169, e_182_172, e_182_174, zPa_some, zPn_some, zRK_some, zRK_none, zCk_t, zis_ob, zget_set_eq, zget_set_ne, zAld_10, zAld_11, zAst_10, zAst_11, zAlen_10, zAlen_11, zbd_t, zbd_f, zb_t, zb_f, zset_set, s_one0, s_one1, zis_so, s_in]
  · rw [if_neg (fun q => c1 q.1)]
    refine MCl_p x (fun d K => ?_)
    simp (disch := omega) only [zgm_0, zgm_1, zgm_2, zgm_3, zgm_4, zgm_5, zgm_6, zgm_7, zgm_8, zgm_9, zgm_10, zgm_11, zgm_12, zgm_13, zgm_14, zgm_15, zgm_16, zgm_17, zgm_18, zgm_19, zgm_20, zgm_21, zgm_22, zgm_23, zgm_24, zgm_25, zgm_26, zgm_27, zgm_28, zgm_29, zgm_30, zgm_31, zgm_32, zgm_33, zgm_34, zgm_35, zgm_36, zgm_37, zpm_4, zpm_5, zpm_6, zpm_7, zpm_8, zpm_9, zpm_10, zpm_11, zpm_12, zpm_13, zpm_14, zpm_15, zpm_16, zpm_17, zpm_18, zpm_22, zpm_23, zpm_31, zpm_32, zpm_36, zis_mo, zuN_eq, zuN_ne, zen_182, e_182_0, e_182_1, e_182_2, e_182_3, e_182_6, e_182_9t, e_182_9f, e_182_12, e_182_13, e_182_14, e_182_15, e_182_18, e_182_21t, e_182_21f, e_182_24, e_182_26, e_182_27, e_182_28, e_182_31, e_182_33t, e_182_33f, e_182_36, e_182_38, e_182_39, e_182_40, e_182_41, e_182_44, e_182_45, e_182_46, e_182_49, e_182_50, e_182_51, e_182_52, e_182_54, e_182_55, e_182_57, e_182_58, e_182_60, e_182_61, e_182_63, e_182_65, e_182_67t, e_182_67f, e_182_70, e_182_71, e_182_73, e_182_75, e_182_76, e_182_78, e_182_80, e_182_82, e_182_83, e_182_84, e_182_85, e_182_88, e_182_90, e_182_91, e_182_94, e_182_95, e_182_97, e_182_98, e_182_101, e_182_103t, e_182_103f, e_182_106, e_182_109, e_182_111, e_182_112, e_182_115, e_182_116, e_182_118, e_182_119, e_182_122, e_182_124t, e_182_124f, e_182_127, e_182_128, e_182_131, e_182_134, e_182_136, e_182_138, e_182_141, e_182_144, e_182_145t, e_182_145f, e_182_148, e_182_149, e_182_152, e_182_153, e_182_154t, e_182_154f, e_182_157, e_182_159, e_182_162, e_182_163, e_182_164t, e_182_164f, e_182_167, e_182_169, e_182_172, e_182_174, zPa_some, zPn_some, zRK_some, zRK_none, zCk_t, zis_ob, zget_set_eq, zget_set_ne, zAld_10, zAld_11, zAst_10, zAst_11, zAlen_10, zAlen_11, zbd_t, zbd_f, zb_t, zb_f, zset_set, s_one0, s_one1, zis_so, s_in]
end GRP
