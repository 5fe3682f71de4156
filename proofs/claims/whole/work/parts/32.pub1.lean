/-! the calls: pair, crossings, round, outward, drift, gap, hang -/
def XCl (b h mi : Nat) (as : List Value) (r : Value) (v : Nat → Int) (F C : Int → Bool) (G : Int → Int) (R : Nat → Int → Int) (D : Int → Bool) (M : zM) : Prop := ∃ M', (∀ (d : Nat) (K : zK), zC (d + h) mi as M K = K (some r) M') ∧ XI b v F C G R D M' ∧ zFr b 47 M M'
def MCl (c h mi : Nat) (as : List Value) (r : Value) (v : Nat → Int) (F C : Int → Bool) (G : Int → Int) (R : Nat → Int → Int) (D : Int → Bool) (M : zM) : Prop := ∃ M', (∀ (d : Nat) (K : zK), zC (d + h) mi as M K = K (some r) M') ∧ MI c v F C G R D M' ∧ zFr c 19 M M'
section PUB1
variable {b c : Nat} {v w : Nat → Int} {F C D : Int → Bool} {G : Int → Int} {R : Nat → Int → Int} {M : zM}
theorem XCl_p {h mi : Nat} {as : List Value} {r : Value} (x : XI b v F C G R D M) (e : ∀ (d : Nat) (K : zK), zC (d + h) mi as M K = K (some r) M) : XCl b h mi as r v F C G R D M := ⟨M, e, x, zFr_refl⟩
theorem MCl_p {h mi : Nat} {as : List Value} {r : Value} (x : MI c v F C G R D M) (e : ∀ (d : Nat) (K : zK), zC (d + h) mi as M K = K (some r) M) : MCl c h mi as r v F C G R D M := ⟨M, e, x, zFr_refl⟩
theorem XI_CP (x : XI b v F C G R D M) (rv : RV v) : CP (b + 46) (sh (v 4) F) (sh (v 5) F) M := by
  have r := rv.1
  exact ⟨zst b (v 4), zst b (v 5), _, _, _, _, x.1.2.2, x.2.1 (v 4) (by omega) (by omega), x.2.1 (v 5) (by omega) (by omega)⟩
theorem MI_MB (x : MI c v F C G R D M) (rv : RV v) : ∃ w, zAg w v ∧ MB c w F M := by
  obtain ⟨w, ha, h0, h1, h2⟩ := x
  have a4 := ha 4 (by omega)
  have a5 := ha 5 (by omega)
  have r := rv.1
  exact ⟨w, ha, h0, h1, by omega, by omega, by omega, by omega⟩
-- crossings
def oCross (F1 F2 : Int → Bool) (t : Int) : Int := if 0 ≤ t ∧ t ≤ 23 then cT F1 F2 t else -101
theorem x_crossings (x : XI b v F C G R D M) (ri : RI v G R D) (t : Int) (ht : -2147483648 ≤ t ∧ t < 2147483648) : XCl b 8 103 [.ref b, .int (zi t)] (.int (zi (oCross (sh (v 4) F) (sh (v 5) F) t))) v F C G R D M := by
  refine XCl_p x (fun d K => ?_)
  have e := s_countCrossings (XI_CP x ri.1)
  have h0 := x.1.1
  have h46 := x.1.2.2
  unfold oCross
  by_cases q : 0 ≤ t ∧ t ≤ 23
  · rw [if_pos q]
    simp (disch := omega) only [zen_103, e_103_0, e_103_1, e_103_4t, e_103_4f, e_103_7, e_103_8, e_103_11, e_103_12, e_103_15, e_103_18, e_103_20, zgf_8_1, zPa_some, zPn_some, zRK_some, zRK_none, zCk_t, zis_ob, zget_set_eq, zget_set_ne, zAld_10, zAld_11, zAst_10, zAst_11, zAlen_10, zAlen_11, zbd_t, zbd_f, zb_t, zb_f, zset_set, s_one0, s_one1, zis_so, h0, h46, s_isSectorX, e]
  · rw [if_neg q]
    simp (disch := omega) only [zen_103, e_103_0, e_103_1, e_103_4t, e_103_4f, e_103_7, e_103_8, e_103_11, e_103_12, e_103_15, e_103_18, e_103_20, zgf_8_1, zPa_some, zPn_some, zRK_some, zRK_none, zCk_t, zis_ob, zget_set_eq, zget_set_ne, zAld_10, zAld_11, zAst_10, zAst_11, zAlen_10, zAlen_11, zbd_t, zbd_f, zb_t, zb_f, zset_set, s_one0, s_one1, zis_so, h0, s_isSectorX]
theorem m_crossings (x : MI c v F C G R D M) (ri : RI v G R D) (t : Int) (ht : -2147483648 ≤ t ∧ t < 2147483648) : MCl c 8 168 [.ref c, .int (zi t)] (.int (zi (oCross (sh (v 4) F) (sh (v 5) F) t))) v F C G R D M := by
  refine MCl_p x (fun d K => ?_)
  obtain ⟨w, ha, hb⟩ := MI_MB x ri.1
  rw [← ha 4 (by omega), ← ha 5 (by omega)]
  have e := s_crossingsOf hb
  have h0 := hb.1
  unfold oCross
  by_cases q : 0 ≤ t ∧ t ≤ 23
  · rw [if_pos q]
    simp (disch := omega) only [zgm_0, zgm_1, zgm_2, zgm_3, zgm_4, zgm_5, zgm_6, zgm_7, zgm_8, zgm_9, zgm_10, zgm_11, zgm_12, zgm_13, zgm_14, zgm_15, zgm_16, zgm_17, zgm_18, zgm_19, zgm_20, zgm_21, zgm_22, zgm_23, zgm_24, zgm_25, zgm_26, zgm_27, zgm_28, zgm_29, zgm_30, zgm_31, zgm_32, zgm_33, zgm_34, zgm_35, zgm_36, zgm_37, zpm_4, zpm_5, zpm_6, zpm_7, zpm_8, zpm_9, zpm_10, zpm_11, zpm_12, zpm_13, zpm_14, zpm_15, zpm_16, zpm_17, zpm_18, zpm_22, zpm_23, zpm_31, zpm_32, zpm_36, zis_mo, zuN_eq, zuN_ne, zen_168, e_168_0, e_168_1, e_168_4t, e_168_4f, e_168_7, e_168_8, e_168_9, e_168_12, e_168_15, e_168_17, zPa_some, zPn_some, zRK_some, zRK_none, zCk_t, zis_ob, zget_set_eq, zget_set_ne, zAld_10, zAld_11, zAst_10, zAst_11, zAlen_10, zAlen_11, zbd_t, zbd_f, zb_t, zb_f, zset_set, s_one0, s_one1, zis_so, h0, s_isSectorM, e]
  · rw [if_neg q]
    simp (disch := omega) only [zgm_0, zgm_1, zgm_2, zgm_3, zgm_4, zgm_5, zgm_6, zgm_7, zgm_8, zgm_9, zgm_10, zgm_11, zgm_12, zgm_13, zgm_14, zgm_15, zgm_16, zgm_17, zgm_18, zgm_19, zgm_20, zgm_21, zgm_22, zgm_23, zgm_24, zgm_25, zgm_26, zgm_27, zgm_28, zgm_29, zgm_30, zgm_31, zgm_32, zgm_33, zgm_34, zgm_35, zgm_36, zgm_37, zpm_4, zpm_5, zpm_6, zpm_7, zpm_8, zpm_9, zpm_10, zpm_11, zpm_12, zpm_13, zpm_14, zpm_15, zpm_16, zpm_17, zpm_18, zpm_22, zpm_23, zpm_31, zpm_32, zpm_36, zis_mo, zuN_eq, zuN_ne, zen_168, e_168_0, e_168_1, e_168_4t, e_168_4f, e_168_7, e_168_8, e_168_9, e_168_12, e_168_15, e_168_17, zPa_some, zPn_some, zRK_some, zRK_none, zCk_t, zis_ob, zget_set_eq, zget_set_ne, zAld_10, zAld_11, zAst_10, zAst_11, zAlen_10, zAlen_11, zbd_t, zbd_f, zb_t, zb_f, zset_set, s_one0, s_one1, zis_so, h0, s_isSectorM]
-- round
def oRound (F1 F2 : Int → Bool) (u : Int) : Int := if 0 ≤ u ∧ u ≤ 4 then (if u = 4 then zfor (fun t s => s + zs2 (gd F1 F2 t)) 24 0 0 else aRound F1 F2 u 0 0 0 192 24 (-1, 0)) else -102
theorem aRound_two {F1 F2 : Int → Bool} {u : Int} : aRound F1 F2 u 0 0 0 999 24 (-1, 0) = aRound F1 F2 u 0 0 0 192 24 (-1, 0) := by
  have hc := cT_rng (F1 := F1) (F2 := F2) 0
  unfold aRound
  rw [show zfor (fun t s => min s (cT F1 F2 t)) 24 0 999 = zfor (fun t s => min s (cT F1 F2 t)) 24 0 192 by
    show zfor (fun t s => min s (cT F1 F2 t)) 23 (0 + 1) (min 999 (cT F1 F2 0)) = zfor (fun t s => min s (cT F1 F2 t)) 23 (0 + 1) (min 192 (cT F1 F2 0))
    rw [show min 999 (cT F1 F2 0) = min 192 (cT F1 F2 0) by omega]]
theorem x_round (x : XI b v F C G R D M) (ri : RI v G R D) (u : Int) (hu : -2147483648 ≤ u ∧ u < 2147483648) : XCl b 9 104 [.ref b, .int (zi u)] (.int (zi (oRound (sh (v 4) F) (sh (v 5) F) u))) v F C G R D M := by
  refine XCl_p x (fun d K => ?_)
  have e1 := s_crossingsOfAll (XI_CP x ri.1)
  have e2 := s_countGround (XI_CP x ri.1)
  have h0 := x.1.1
  have h46 := x.1.2.2
  unfold oRound
  by_cases q : 0 ≤ u ∧ u ≤ 4
  · rw [if_pos q]
    by_cases q4 : u = 4
    · subst q4
      rw [if_pos rfl]
      simp (disch := omega) only [zen_104, e_104_0, e_104_1, e_104_2, e_104_3, e_104_6t, e_104_6f, e_104_9, e_104_11, e_104_12, e_104_13, e_104_14t, e_104_14f, e_104_17, e_104_18, e_104_21, e_104_24, e_104_27, e_104_28, e_104_31, e_104_32, e_104_35, zgf_8_1, zPa_some, zPn_some, zRK_some, zRK_none, zCk_t, zis_ob, zget_set_eq, zget_set_ne, zAld_10, zAld_11, zAst_10, zAst_11, zAlen_10, zAlen_11, zbd_t, zbd_f, zb_t, zb_f, zset_set, s_one0, s_one1, zis_so, h0, h46, s_isWithin, e2]
    · rw [if_neg q4]
      simp (disch := omega) only [zen_104, e_104_0, e_104_1, e_104_2, e_104_3, e_104_6t, e_104_6f, e_104_9, e_104_11, e_104_12, e_104_13, e_104_14t, e_104_14f, e_104_17, e_104_18, e_104_21, e_104_24, e_104_27, e_104_28, e_104_31, e_104_32, e_104_35, zgf_8_1, zPa_some, zPn_some, zRK_some, zRK_none, zCk_t, zis_ob, zget_set_eq, zget_set_ne, zAld_10, zAld_11, zAst_10, zAst_11, zAlen_10, zAlen_11, zbd_t, zbd_f, zb_t, zb_f, zset_set, s_one0, s_one1, zis_so, h0, h46, s_isWithin, e1]
  · rw [if_neg q]
    simp (disch := omega) only [zen_104, e_104_0, e_104_1, e_104_2, e_104_3, e_104_6t, e_104_6f, e_104_9, e_104_11, e_104_12, e_104_13, e_104_14t, e_104_14f, e_104_17, e_104_18, e_104_21, e_104_24, e_104_27, e_104_28, e_104_31, e_104_32, e_104_35, zgf_8_1, zPa_some, zPn_some, zRK_some, zRK_none, zCk_t, zis_ob, zget_set_eq, zget_set_ne, zAld_10, zAld_11, zAst_10, zAst_11, zAlen_10, zAlen_11, zbd_t, zbd_f, zb_t, zb_f, zset_set, s_one0, s_one1, zis_so, h0, s_isWithin]
theorem m_round (x : MI c v F C G R D M) (ri : RI v G R D) (u : Int) (hu : -2147483648 ≤ u ∧ u < 2147483648) : MCl c 9 169 [.ref c, .int (zi u)] (.int (zi (oRound (sh (v 4) F) (sh (v 5) F) u))) v F C G R D M := by
  refine MCl_p x (fun d K => ?_)
  obtain ⟨w, ha, hb⟩ := MI_MB x ri.1
  rw [← ha 4 (by omega), ← ha 5 (by omega)]
  have h0 := hb.1
  unfold oRound
  by_cases q : 0 ≤ u ∧ u ≤ 4
  · rw [if_pos q, ← aRound_two]
    simp (disch := omega) only [zgm_0, zgm_1, zgm_2, zgm_3, zgm_4, zgm_5, zgm_6, zgm_7, zgm_8, zgm_9, zgm_10, zgm_11, zgm_12, zgm_13, zgm_14, zgm_15, zgm_16, zgm_17, zgm_18, zgm_19, zgm_20, zgm_21, zgm_22, zgm_23, zgm_24, zgm_25, zgm_26, zgm_27, zgm_28, zgm_29, zgm_30, zgm_31, zgm_32, zgm_33, zgm_34, zgm_35, zgm_36, zgm_37, zpm_4, zpm_5, zpm_6, zpm_7, zpm_8, zpm_9, zpm_10, zpm_11, zpm_12, zpm_13, zpm_14, zpm_15, zpm_16, zpm_17, zpm_18, zpm_22, zpm_23, zpm_31, zpm_32, zpm_36, zis_mo, zuN_eq, zuN_ne, zen_169, e_169_0, e_169_1, e_169_2, e_169_3, e_169_6, e_169_9t, e_169_9f, e_169_12, e_169_14, e_169_15, e_169_16, e_169_17, e_169_20, e_169_21, e_169_22, e_169_24, e_169_25, e_169_27, e_169_28, e_169_30, e_169_31, e_169_33, e_169_35, e_169_40, e_169_41, e_169_43, e_169_46, e_169_48, e_169_49, e_169_51, e_169_52, e_169_53, e_169_55, e_169_56t, e_169_56f, e_169_59, e_169_61, e_169_64, e_169_65, e_169_66, e_169_68, e_169_70t, e_169_70f, e_169_73, e_169_75, e_169_78, e_169_80, e_169_82, e_169_84, e_169_86t, e_169_86f, e_169_89, e_169_91, e_169_94, e_169_96, e_169_98, e_169_99, e_169_101, e_169_103, e_169_106t, e_169_106f, e_169_109, e_169_111, e_169_112, e_169_114, e_169_116, e_169_117, e_169_119, e_169_121, e_169_122, e_169_125t, e_169_125f, e_169_128, e_169_129, e_169_131, e_169_133, e_169_134, e_169_136, e_169_138, e_169_139, e_169_141, e_169_144t, e_169_144f, e_169_147, e_169_148, e_169_151, e_169_152, e_169_153, e_169_155, e_169_158, e_169_161, e_169_164, e_169_167, e_169_168t, e_169_168f, e_169_171, e_169_172, e_169_175, e_169_176, e_169_177t, e_169_177f, e_169_180, e_169_181, e_169_184, e_169_185, e_169_186t, e_169_186f, e_169_189, e_169_191, e_169_194, e_169_195, e_169_196t, e_169_196f, e_169_199, e_169_201, e_169_204, e_169_206, zPa_some, zPn_some, zRK_some, zRK_none, zCk_t, zis_ob, zget_set_eq, zget_set_ne, zAld_10, zAld_11, zAst_10, zAst_11, zAlen_10, zAlen_11, zbd_t, zbd_f, zb_t, zb_f, zset_set, s_one0, s_one1, zis_so, h0, s_in]
    exact lm_169 hb u q 24 0 0 999 0 (-1, 0) none none (by omega) (by omega) (by decide) (d + 3) K
  · rw [if_neg q]
    simp (disch := omega) only [zgm_0, zgm_1, zgm_2, zgm_3, zgm_4, zgm_5, zgm_6, zgm_7, zgm_8, zgm_9, zgm_10, zgm_11, zgm_12, zgm_13, zgm_14, zgm_15, zgm_16, zgm_17, zgm_18, zgm_19, zgm_20, zgm_21, zgm_22, zgm_23, zgm_24, zgm_25, zgm_26, zgm_27, zgm_28, zgm_29, zgm_30, zgm_31, zgm_32, zgm_33, zgm_34, zgm_35, zgm_36, zgm_37, zpm_4, zpm_5, zpm_6, zpm_7, zpm_8, zpm_9, zpm_10, zpm_11, zpm_12, zpm_13, zpm_14, zpm_15, zpm_16, zpm_17, zpm_18, zpm_22, zpm_23, zpm_31, zpm_32, zpm_36, zis_mo, zuN_eq, zuN_ne, zen_169, e_169_0, e_169_1, e_169_2, e_169_3, e_169_6, e_169_9t, e_169_9f, e_169_12, e_169_14, e_169_15, e_169_16, e_169_17, e_169_20, e_169_21, e_169_22, e_169_24, e_169_25, e_169_27, e_169_28, e_169_30, e_169_31, e_169_33, e_169_35, e_169_37t, e_169_37f, e_169_40, e_169_41, e_169_43, e_169_46, e_169_48, e_169_49, e_169_51, e_169_52, e_169_53, e_169_55, e_169_56t, e_169_56f, e_169_59, e_169_61, e_169_64, e_169_65, e_169_66, e_169_68, e_169_70t, e_169_70f, e_169_73, e_169_75, e_169_78, e_169_80, e_169_82, e_169_84, e_169_86t, e_169_86f, e_169_89, e_169_91, e_169_94, e_169_96, e_169_98, e_169_99, e_169_101, e_169_103, e_169_106t, e_169_106f, e_169_109, e_169_111, e_169_112, e_169_114, e_169_116, e_169_117, e_169_119, e_169_121, e_169_122, e_169_125t, e_169_125f, e_169_128, e_169_129, e_169_131, e_169_133, e_169_134, e_169_136, e_169_138, e_169_139, e_169_141, e_169_144t, e_169_144f, e_169_147, e_169_148, e_169_151, e_169_152, e_169_153, e_169_155, e_169_158, e_169_161, e_169_164, e_169_167, e_169_168t, e_169_168f, e_169_171, e_169_172, e_169_175, e_169_176, e_169_177t, e_169_177f, e_169_180, e_169_181, e_169_184, e_169_185, e_169_186t, e_169_186f, e_169_189, e_169_191, e_169_194, e_169_195, e_169_196t, e_169_196f, e_169_199, e_169_201, e_169_204, e_169_206, zPa_some, zPn_some, zRK_some, zRK_none, zCk_t, zis_ob, zget_set_eq, zget_set_ne, zAld_10, zAld_11, zAst_10, zAst_11, zAlen_10, zAlen_11, zbd_t, zbd_f, zb_t, zb_f, zset_set, s_one0, s_one1, zis_so, h0, s_in]
-- outward
def oOut (F1 F2 : Int → Bool) (t : Int) : Int := if 0 ≤ t ∧ t ≤ 23 then oT F1 F2 t else -1000
theorem x_outward (x : XI b v F C G R D M) (ri : RI v G R D) (t : Int) (ht : -2147483648 ≤ t ∧ t < 2147483648) : XCl b 8 105 [.ref b, .int (zi t)] (.int (zi (oOut (sh (v 4) F) (sh (v 5) F) t))) v F C G R D M := by
  refine XCl_p x (fun d K => ?_)
  have e := s_outwardLess (XI_CP x ri.1)
  have h0 := x.1.1
  have h46 := x.1.2.2
  unfold oOut
  by_cases q : 0 ≤ t ∧ t ≤ 23
  · rw [if_pos q]
    simp (disch := omega) only [zen_105, e_105_0, e_105_1, e_105_4t, e_105_4f, e_105_7, e_105_8, e_105_11, e_105_12, e_105_15, e_105_18, e_105_21, zgf_8_1, zPa_some, zPn_some, zRK_some, zRK_none, zCk_t, zis_ob, zget_set_eq, zget_set_ne, zAld_10, zAld_11, zAst_10, zAst_11, zAlen_10, zAlen_11, zbd_t, zbd_f, zb_t, zb_f, zset_set, s_one0, s_one1, zis_so, h0, h46, s_isSectorX, e]
  · rw [if_neg q]
    simp (disch := omega) only [zen_105, e_105_0, e_105_1, e_105_4t, e_105_4f, e_105_7, e_105_8, e_105_11, e_105_12, e_105_15, e_105_18, e_105_21, zgf_8_1, zPa_some, zPn_some, zRK_some, zRK_none, zCk_t, zis_ob, zget_set_eq, zget_set_ne, zAld_10, zAld_11, zAst_10, zAst_11, zAlen_10, zAlen_11, zbd_t, zbd_f, zb_t, zb_f, zset_set, s_one0, s_one1, zis_so, h0, s_isSectorX]
theorem m_outward (x : MI c v F C G R D M) (ri : RI v G R D) (t : Int) (ht : -2147483648 ≤ t ∧ t < 2147483648) : MCl c 8 171 [.ref c, .int (zi t)] (.int (zi (oOut (sh (v 4) F) (sh (v 5) F) t))) v F C G R D M := by
  refine MCl_p x (fun d K => ?_)
  obtain ⟨w, ha, hb⟩ := MI_MB x ri.1
  rw [← ha 4 (by omega), ← ha 5 (by omega)]
  have e := s_goOnM hb
  have h0 := hb.1
  unfold oOut
  by_cases q : 0 ≤ t ∧ t ≤ 23
  · rw [if_pos q]
    simp (disch := omega) only [zgm_0, zgm_1, zgm_2, zgm_3, zgm_4, zgm_5, zgm_6, zgm_7, zgm_8, zgm_9, zgm_10, zgm_11, zgm_12, zgm_13, zgm_14, zgm_15, zgm_16, zgm_17, zgm_18, zgm_19, zgm_20, zgm_21, zgm_22, zgm_23, zgm_24, zgm_25, zgm_26, zgm_27, zgm_28, zgm_29, zgm_30, zgm_31, zgm_32, zgm_33, zgm_34, zgm_35, zgm_36, zgm_37, zpm_4, zpm_5, zpm_6, zpm_7, zpm_8, zpm_9, zpm_10, zpm_11, zpm_12, zpm_13, zpm_14, zpm_15, zpm_16, zpm_17, zpm_18, zpm_22, zpm_23, zpm_31, zpm_32, zpm_36, zis_mo, zuN_eq, zuN_ne, zen_171, e_171_0, e_171_1, e_171_4t, e_171_4f, e_171_7, e_171_8, e_171_9, e_171_10, e_171_13, e_171_14, e_171_15, e_171_16, e_171_19, e_171_20, e_171_23, e_171_26, zPa_some, zPn_some, zRK_some, zRK_none, zCk_t, zis_ob, zget_set_eq, zget_set_ne, zAld_10, zAld_11, zAst_10, zAst_11, zAlen_10, zAlen_11, zbd_t, zbd_f, zb_t, zb_f, zset_set, s_one0, s_one1, zis_so, h0, s_isSectorM, e]
    rfl
  · rw [if_neg q]
    simp (disch := omega) only [zgm_0, zgm_1, zgm_2, zgm_3, zgm_4, zgm_5, zgm_6, zgm_7, zgm_8, zgm_9, zgm_10, zgm_11, zgm_12, zgm_13, zgm_14, zgm_15, zgm_16, zgm_17, zgm_18, zgm_19, zgm_20, zgm_21, zgm_22, zgm_23, zgm_24, zgm_25, zgm_26, zgm_27, zgm_28, zgm_29, zgm_30, zgm_31, zgm_32, zgm_33, zgm_34, zgm_35, zgm_36, zgm_37, zpm_4, zpm_5, zpm_6, zpm_7, zpm_8, zpm_9, zpm_10, zpm_11, zpm_12, zpm_13, zpm_14, zpm_15, zpm_16, zpm_17, zpm_18, zpm_22, zpm_23, zpm_31, zpm_32, zpm_36, zis_mo, zuN_eq, zuN_ne, zen_171, e_171_0, e_171_1, e_171_4t, e_171_4f, e_171_7, e_171_8, e_171_9, e_171_10, e_171_13, e_171_14, e_171_15, e_171_16, e_171_19, e_171_20, e_171_23, e_171_26, zPa_some, zPn_some, zRK_some, zRK_none, zCk_t, zis_ob, zget_set_eq, zget_set_ne, zAld_10, zAld_11, zAst_10, zAst_11, zAlen_10, zAlen_11, zbd_t, zbd_f, zb_t, zb_f, zset_set, s_one0, s_one1, zis_so, h0, s_isSectorM]
-- drift
def oDrift (F1 F2 : Int → Bool) : Int := zfor (fun t s => s + oT F1 F2 t) 24 0 0
theorem l_106 (x : XI b v F C G R D M) (ri : RI v G R D) : ∀ (n : Nat) (t s : Int), t + n = 24 → 0 ≤ t → ∀ (d : Nat) (K : zK), Ev (d + 7) 106 7 [some (.ref b), some (.int (zi s)), some (.int (zi t))] [.int (zi 24), .int (zi t)] M K = K (some (.int (zi (zfor (fun t s => s + oT (sh (v 4) F) (sh (v 5) F) t) n t s)))) M := by
  intro n
  have e := s_outwardLess (XI_CP x ri.1)
  have h0 := x.1.1
  have h46 := x.1.2.2
  induction n with
  | zero =>
    intro t s ht q0 d K
    simp (disch := omega) only [zen_106, e_106_0, e_106_1, e_106_2, e_106_3, e_106_4, e_106_5, e_106_7t, e_106_7f, e_106_10, e_106_11, e_106_12, e_106_15, e_106_16, e_106_19, e_106_20, e_106_21, e_106_24, e_106_27, e_106_28, zgf_8_1, zPa_some, zPn_some, zRK_some, zRK_none, zCk_t, zis_ob, zget_set_eq, zget_set_ne, zAld_10, zAld_11, zAst_10, zAst_11, zAlen_10, zAlen_11, zbd_t, zbd_f, zb_t, zb_f, zset_set, s_one0, s_one1, zis_so, zfor_0]
  | succ n ih =>
    intro t s ht q0 d K
    rw [zfor_s]
    simp (disch := omega) only [zen_106, e_106_0, e_106_1, e_106_2, e_106_3, e_106_4, e_106_5, e_106_7t, e_106_7f, e_106_10, e_106_11, e_106_12, e_106_15, e_106_16, e_106_19, e_106_20, e_106_21, e_106_24, e_106_27, e_106_28, zgf_8_1, zPa_some, zPn_some, zRK_some, zRK_none, zCk_t, zis_ob, zget_set_eq, zget_set_ne, zAld_10, zAld_11, zAst_10, zAst_11, zAlen_10, zAlen_11, zbd_t, zbd_f, zb_t, zb_f, zset_set, s_one0, s_one1, zis_so, h0, h46, e]
    exact ih _ _ (by omega) (by omega) d K
theorem x_drift (x : XI b v F C G R D M) (ri : RI v G R D) : XCl b 8 106 [.ref b] (.int (zi (oDrift (sh (v 4) F) (sh (v 5) F)))) v F C G R D M := by
  refine XCl_p x (fun d K => ?_)
  simp (disch := omega) only [zen_106, e_106_0, e_106_1, e_106_2, e_106_3, e_106_4, e_106_5, e_106_10, e_106_11, e_106_12, e_106_15, e_106_16, e_106_19, e_106_20, e_106_21, e_106_24, e_106_27, e_106_28, zgf_8_1, zPa_some, zPn_some, zRK_some, zRK_none, zCk_t, zis_ob, zget_set_eq, zget_set_ne, zAld_10, zAld_11, zAst_10, zAst_11, zAlen_10, zAlen_11, zbd_t, zbd_f, zb_t, zb_f, zset_set, s_one0, s_one1, zis_so]
  exact l_106 x ri 24 0 0 (by omega) (by omega) d K
theorem lm_172 (x : MB c w F M) : ∀ (n : Nat) (t s : Int), t + n = 24 → 0 ≤ t → ∀ (d : Nat) (K : zK), Ev (d + 7) 172 7 [some (.ref c), some (.int (zi s)), some (.int (zi t))] [.int (zi 24), .int (zi t)] M K = K (some (.int (zi (zfor (fun t s => s + oT (sh (w 4) F) (sh (w 5) F) t) n t s)))) M := by
  intro n
  have e := s_goOnM x
  have h0 := x.1
  induction n with
  | zero =>
    intro t s ht q0 d K
    simp (disch := omega) only [zgm_0, zgm_1, zgm_2, zgm_3, zgm_4, zgm_5, zgm_6, zgm_7, zgm_8, zgm_9, zgm_10, zgm_11, zgm_12, zgm_13, zgm_14, zgm_15, zgm_16, zgm_17, zgm_18, zgm_19, zgm_20, zgm_21, zgm_22, zgm_23, zgm_24, zgm_25, zgm_26, zgm_27, zgm_28, zgm_29, zgm_30, zgm_31, zgm_32, zgm_33, zgm_34, zgm_35, zgm_36, zgm_37, zpm_4, zpm_5, zpm_6, zpm_7, zpm_8, zpm_9, zpm_10, zpm_11, zpm_12, zpm_13, zpm_14, zpm_15, zpm_16, zpm_17, zpm_18, zpm_22, zpm_23, zpm_31, zpm_32, zpm_36, zis_mo, zuN_eq, zuN_ne, zen_172, e_172_0, e_172_1, e_172_2, e_172_3, e_172_4, e_172_5, e_172_7t, e_172_7f, e_172_10, e_172_11, e_172_12, e_172_13, e_172_14, e_172_17, e_172_18, e_172_19, e_172_20, e_172_23, e_172_24, e_172_25, e_172_26, e_172_29, e_172_32, e_172_33, zPa_some, zPn_some, zRK_some, zRK_none, zCk_t, zis_ob, zget_set_eq, zget_set_ne, zAld_10, zAld_11, zAst_10, zAst_11, zAlen_10, zAlen_11, zbd_t, zbd_f, zb_t, zb_f, zset_set, s_one0, s_one1, zis_so, zfor_0]
  | succ n ih =>
    intro t s ht q0 d K
    rw [zfor_s]
    simp (disch := omega) only [zgm_0, zgm_1, zgm_2, zgm_3, zgm_4, zgm_5, zgm_6, zgm_7, zgm_8, zgm_9, zgm_10, zgm_11, zgm_12, zgm_13, zgm_14, zgm_15, zgm_16, zgm_17, zgm_18, zgm_19, zgm_20, zgm_21, zgm_22, zgm_23, zgm_24, zgm_25, zgm_26, zgm_27, zgm_28, zgm_29, zgm_30, zgm_31, zgm_32, zgm_33, zgm_34, zgm_35, zgm_36, zgm_37, zpm_4, zpm_5, zpm_6, zpm_7, zpm_8, zpm_9, zpm_10, zpm_11, zpm_12, zpm_13, zpm_14, zpm_15, zpm_16, zpm_17, zpm_18, zpm_22, zpm_23, zpm_31, zpm_32, zpm_36, zis_mo, zuN_eq, zuN_ne, zen_172, e_172_0, e_172_1, e_172_2, e_172_3, e_172_4, e_172_5, e_172_7t, e_172_7f, e_172_10, e_172_11, e_172_12, e_172_13, e_172_14, e_172_17, e_172_18, e_172_19, e_172_20, e_172_23, e_172_24, e_172_25, e_172_26, e_172_29, e_172_32, e_172_33, zPa_some, zPn_some, zRK_some, zRK_none, zCk_t, zis_ob, zget_set_eq, zget_set_ne, zAld_10, zAld_11, zAst_10, zAst_11, zAlen_10, zAlen_11, zbd_t, zbd_f, zb_t, zb_f, zset_set, s_one0, s_one1, zis_so, h0, e]
    exact ih _ _ (by omega) (by omega) d K
theorem m_drift (x : MI c v F C G R D M) (ri : RI v G R D) : MCl c 8 172 [.ref c] (.int (zi (oDrift (sh (v 4) F) (sh (v 5) F)))) v F C G R D M := by
  refine MCl_p x (fun d K => ?_)
  obtain ⟨w, ha, hb⟩ := MI_MB x ri.1
  rw [← ha 4 (by omega), ← ha 5 (by omega)]
  simp (disch := omega) only [zgm_0, zgm_1, zgm_2, zgm_3, zgm_4, zgm_5, zgm_6, zgm_7, zgm_8, zgm_9, zgm_10, zgm_11, zgm_12, zgm_13, zgm_14, zgm_15, zgm_16, zgm_17, zgm_18, zgm_19, zgm_20, zgm_21, zgm_22, zgm_23, zgm_24, zgm_25, zgm_26, zgm_27, zgm_28, zgm_29, zgm_30, zgm_31, zgm_32, zgm_33, zgm_34, zgm_35, zgm_36, zgm_37, zpm_4, zpm_5, zpm_6, zpm_7, zpm_8, zpm_9, zpm_10, zpm_11, zpm_12, zpm_13, zpm_14, zpm_15, zpm_16, zpm_17, zpm_18, zpm_22, zpm_23, zpm_31, zpm_32, zpm_36, zis_mo, zuN_eq, zuN_ne, zen_172, e_172_0, e_172_1, e_172_2, e_172_3, e_172_4, e_172_5, e_172_10, e_172_11, e_172_12, e_172_13, e_172_14, e_172_17, e_172_18, e_172_19, e_172_20, e_172_23, e_172_24, e_172_25, e_172_26, e_172_29, e_172_32, e_172_33, zPa_some, zPn_some, zRK_some, zRK_none, zCk_t, zis_ob, zget_set_eq, zget_set_ne, zAld_10, zAld_11, zAst_10, zAst_11, zAlen_10, zAlen_11, zbd_t, zbd_f, zb_t, zb_f, zset_set, s_one0, s_one1, zis_so]
  exact lm_172 hb 24 0 0 (by omega) (by omega) d K
-- pair
def oPair (v : Nat → Int) (p r : Int) : Int × (Nat → Int) := if (0 ≤ p ∧ p ≤ 3) ∧ 0 ≤ r ∧ r ≤ 3 then (if p = r then (-102, v) else (1, zuN (zuN v 4 p) 5 r)) else (-101, v)
theorem RI_pair (ri : RI v G R D) (p r : Int) : RI (oPair v p r).2 G R D := by
  unfold oPair
  split
  · split
    · exact ri
    · obtain ⟨⟨-, r1⟩, r2⟩ := ri
      exact ⟨⟨by show (0 ≤ p ∧ p ≤ 3 ∧ 0 ≤ r ∧ r ≤ 3 ∧ p ≠ r); omega, r1⟩, r2⟩
  · exact ri
theorem x_pair (x : XI b v F C G R D M) (p r : Int) (hp : -2147483648 ≤ p ∧ p < 2147483648 ∧ -2147483648 ≤ r ∧ r < 2147483648) : XCl b 4 102 [.ref b, .int (zi p), .int (zi r)] (.int (zi (oPair v p r).1)) (oPair v p r).2 F C G R D M := by
  unfold oPair
  by_cases q : (0 ≤ p ∧ p ≤ 3) ∧ 0 ≤ r ∧ r ≤ 3
  · rw [if_pos q]
    by_cases q2 : p = r
    · rw [if_pos q2]
      refine XCl_p x (fun d K => ?_)
      subst q2
      simp (disch := omega) only [zen_102, e_102_0, e_102_1, e_102_4t, e_102_4f, e_102_7, e_102_8, e_102_11t, e_102_11f, e_102_14, e_102_16, e_102_17, e_102_18, e_102_19t, e_102_19f, e_102_22, e_102_24, e_102_25, e_102_26, e_102_27, e_102_30, e_102_31, e_102_32, e_102_35, e_102_36, e_102_39, e_102_40, e_102_43, e_102_44, e_102_45, e_102_46, e_102_49, e_102_50, e_102_51, e_102_54, e_102_55, zgf_8_0, zgf_8_1, zpf_8_8, zpf_8_9, zPa_some, zPn_some, zRK_some, zRK_none, zCk_t, zis_ob, zget_set_eq, zget_set_ne, zAld_10, zAld_11, zAst_10, zAst_11, zAlen_10, zAlen_11, zbd_t, zbd_f, zb_t, zb_f, zset_set, s_one0, s_one1, zis_so, s_isStoneX]
    · rw [if_neg q2]
      obtain ⟨x1, x2, x3, x4, x5, x6, x7, x8⟩ := x
      have f1 := zFr_set (lo := b) (n := 1) (a := b) (M := M) (x := zOb 8 [.ref (b + 1), .ref (b + 46), .ref (b + 2), .ref (b + 3), .ref (b + 4), .ref (b + 9), .ref (b + 12), .ref (b + 17), .int (zi p), .int (zi r), .int (zi (v 16)), .int (zi (v 32)), .int (zi (v 17))]) (by omega)
      have f2 := fun M => zFr_set (lo := b + 46) (n := 1) (a := b + 46) (M := M) (x := zOb 0 [.ref (zst b p), .ref (zst b r)]) (by omega)
      refine ⟨_, fun d K => ?_, ⟨⟨(zget_set_ne (by omega)).trans zget_set_eq, (zget_set_ne (by omega)).trans ((zget_set_ne (by omega)).trans x1.2.1), zget_set_eq⟩, XS_fr (XS_fr x2 f1 (by omega)) (f2 _) (by omega), XH_fr (XH_fr x3 f1 (by omega)) (f2 _) (by omega), XG_fr (XG_fr x4 f1 (by omega)) (f2 _) (by omega), XT_fr (XT_fr x5 f1 (by omega)) (f2 _) (by omega), XR_fr (XR_fr x6 f1 (by omega)) (f2 _) (by omega), XM_fr (XM_fr x7 f1 (by omega)) (f2 _) (by omega), XP_fr (XP_fr x8 f1 (by omega)) (f2 _) (by omega)⟩, zFr_trans (zFr_mono f1 (by omega)) (zFr_mono (f2 _) (by omega))⟩
      have h0 := x1.1
      have h1 := x1.2.1
      have h46 := x1.2.2
      have sp := (x2 p (by omega) (by omega)).1
      have sr := (x2 r (by omega) (by omega)).1
      have hn : ∀ k, zst b k ≠ b := fun k => by unfold zst; omega
      simp (disch := omega) only [zen_102, e_102_0, e_102_1, e_102_4t, e_102_4f, e_102_7, e_102_8, e_102_11t, e_102_11f, e_102_14, e_102_16, e_102_17, e_102_18, e_102_19t, e_102_19f, e_102_22, e_102_24, e_102_25, e_102_26, e_102_27, e_102_30, e_102_31, e_102_32, e_102_35, e_102_36, e_102_39, e_102_40, e_102_43, e_102_44, e_102_45, e_102_46, e_102_49, e_102_50, e_102_51, e_102_54, e_102_55, zgf_8_0, zgf_8_1, zpf_8_8, zpf_8_9, zen_1, e_1_0, e_1_1, e_1_2, e_1_5, e_1_6, e_1_7, e_1_10, zpf_0_0, zpf_0_1, zPa_some, zPn_some, zRK_some, zRK_none, zCk_t, zis_ob, zget_set_eq, zget_set_ne, zAld_10, zAld_11, zAst_10, zAst_11, zAlen_10, zAlen_11, zbd_t, zbd_f, zb_t, zb_f, zset_set, s_one0, s_one1, zis_so, s_isStoneX, h0, h1, h46, zAld_st, sp, sr, hn]
      rfl
  · rw [if_neg q]
    refine XCl_p x (fun d K => ?_)
    by_cases q1 : 0 ≤ p ∧ p ≤ 3
    · simp (disch := omega) only [zen_102, e_102_0, e_102_1, e_102_4t, e_102_4f, e_102_7, e_102_8, e_102_11t, e_102_11f, e_102_14, e_102_16, e_102_17, e_102_18, e_102_19t, e_102_19f, e_102_22, e_102_24, e_102_25, e_102_26, e_102_27, e_102_30, e_102_31, e_102_32, e_102_35, e_102_36, e_102_39, e_102_40, e_102_43, e_102_44, e_102_45, e_102_46, e_102_49, e_102_50, e_102_51, e_102_54, e_102_55, zgf_8_0, zgf_8_1, zpf_8_8, zpf_8_9, zPa_some, zPn_some, zRK_some, zRK_none, zCk_t, zis_ob, zget_set_eq, zget_set_ne, zAld_10, zAld_11, zAst_10, zAst_11, zAlen_10, zAlen_11, zbd_t, zbd_f, zb_t, zb_f, zset_set, s_one0, s_one1, zis_so, s_isStoneX]
    · simp (disch := omega) only [zen_102, e_102_0, e_102_1, e_102_4t, e_102_4f, e_102_7, e_102_8, e_102_11t, e_102_11f, e_102_14, e_102_16, e_102_17, e_102_18, e_102_19t, e_102_19f, e_102_22, e_102_24, e_102_25, e_102_26, e_102_27, e_102_30, e_102_31, e_102_32, e_102_35, e_102_36, e_102_39, e_102_40, e_102_43, e_102_44, e_102_45, e_102_46, e_102_49, e_102_50, e_102_51, e_102_54, e_102_55, zgf_8_0, zgf_8_1, zpf_8_8, zpf_8_9, zPa_some, zPn_some, zRK_some, zRK_none, zCk_t, zis_ob, zget_set_eq, zget_set_ne, zAld_10, zAld_11, zAst_10, zAst_11, zAlen_10, zAlen_11, zbd_t, zbd_f, zb_t, zb_f, zset_set, s_one0, s_one1, zis_so, s_isStoneX]
theorem m_pair (x : MI c v F C G R D M) (p r : Int) (hp : -2147483648 ≤ p ∧ p < 2147483648 ∧ -2147483648 ≤ r ∧ r < 2147483648) : MCl c 4 163 [.ref c, .int (zi p), .int (zi r)] (.int (zi (oPair v p r).1)) (oPair v p r).2 F C G R D M := by
  unfold oPair
  by_cases q : (0 ≤ p ∧ p ≤ 3) ∧ 0 ≤ r ∧ r ≤ 3
  · rw [if_pos q]
    by_cases q2 : p = r
    · rw [if_pos q2]
      refine MCl_p x (fun d K => ?_)
      subst q2
      simp (disch := omega) only [zgm_0, zgm_1, zgm_2, zgm_3, zgm_4, zgm_5, zgm_6, zgm_7, zgm_8, zgm_9, zgm_10, zgm_11, zgm_12, zgm_13, zgm_14, zgm_15, zgm_16, zgm_17, zgm_18, zgm_19, zgm_20, zgm_21, zgm_22, zgm_23, zgm_24, zgm_25, zgm_26, zgm_27, zgm_28, zgm_29, zgm_30, zgm_31, zgm_32, zgm_33, zgm_34, zgm_35, zgm_36, zgm_37, zpm_4, zpm_5, zpm_6, zpm_7, zpm_8, zpm_9, zpm_10, zpm_11, zpm_12, zpm_13, zpm_14, zpm_15, zpm_16, zpm_17, zpm_18, zpm_22, zpm_23, zpm_31, zpm_32, zpm_36, zis_mo, zuN_eq, zuN_ne, zen_163, e_163_0, e_163_1, e_163_4t, e_163_4f, e_163_7, e_163_8, e_163_11t, e_163_11f, e_163_14, e_163_16, e_163_17, e_163_18, e_163_19t, e_163_19f, e_163_22, e_163_24, e_163_25, e_163_26, e_163_27, e_163_30, e_163_31, e_163_32, e_163_35, e_163_36, zPa_some, zPn_some, zRK_some, zRK_none, zCk_t, zis_ob, zget_set_eq, zget_set_ne, zAld_10, zAld_11, zAst_10, zAst_11, zAlen_10, zAlen_11, zbd_t, zbd_f, zb_t, zb_f, zset_set, s_one0, s_one1, zis_so, s_isStoneM]
    · rw [if_neg q2]
      obtain ⟨w, ha, h0, h1, h2, h3, ⟨A4, h4⟩, h5, h6, h7, h8, h9, h10, h11, h12, h13, h14, ⟨A15, h15⟩, ⟨A16, h16⟩, ⟨A17, h17⟩, A18, h18⟩ := x
      refine ⟨_, fun d K => ?_, ⟨zuN (zuN w 4 p) 5 r, zAg_up (zAg_up ha), zget_set_eq, (zget_set_ne (by omega)).trans h1, (zget_set_ne (by omega)).trans h2, (zget_set_ne (by omega)).trans h3, ⟨A4, (zget_set_ne (by omega)).trans h4⟩, (zget_set_ne (by omega)).trans h5, (zget_set_ne (by omega)).trans h6, (zget_set_ne (by omega)).trans h7, (zget_set_ne (by omega)).trans h8, (zget_set_ne (by omega)).trans h9, (zget_set_ne (by omega)).trans h10, (zget_set_ne (by omega)).trans h11, (zget_set_ne (by omega)).trans h12, (zget_set_ne (by omega)).trans h13, (zget_set_ne (by omega)).trans h14, ⟨A15, (zget_set_ne (by omega)).trans h15⟩, ⟨A16, (zget_set_ne (by omega)).trans h16⟩, ⟨A17, (zget_set_ne (by omega)).trans h17⟩, A18, (zget_set_ne (by omega)).trans h18⟩, zFr_set (by omega)⟩
      simp (disch := omega) only [zgm_0, zgm_1, zgm_2, zgm_3, zgm_4, zgm_5, zgm_6, zgm_7, zgm_8, zgm_9, zgm_10, zgm_11, zgm_12, zgm_13, zgm_14, zgm_15, zgm_16, zgm_17, zgm_18, zgm_19, zgm_20, zgm_21, zgm_22, zgm_23, zgm_24, zgm_25, zgm_26, zgm_27, zgm_28, zgm_29, zgm_30, zgm_31, zgm_32, zgm_33, zgm_34, zgm_35, zgm_36, zgm_37, zpm_4, zpm_5, zpm_6, zpm_7, zpm_8, zpm_9, zpm_10, zpm_11, zpm_12, zpm_13, zpm_14, zpm_15, zpm_16, zpm_17, zpm_18, zpm_22, zpm_23, zpm_31, zpm_32, zpm_36, zis_mo, zuN_eq, zuN_ne, zen_163, e_163_0, e_163_1, e_163_4t, e_163_4f, e_163_7, e_163_8, e_163_11t, e_163_11f, e_163_14, e_163_16, e_163_17, e_163_18, e_163_19t, e_163_19f, e_163_22, e_163_24, e_163_25, e_163_26, e_163_27, e_163_30, e_163_31, e_163_32, e_163_35, e_163_36, zPa_some, zPn_some, zRK_some, zRK_none, zCk_t, zis_ob, zget_set_eq, zget_set_ne, zAld_10, zAld_11, zAst_10, zAst_11, zAlen_10, zAlen_11, zbd_t, zbd_f, zb_t, zb_f, zset_set, s_one0, s_one1, zis_so, h0, s_isStoneM]
  · rw [if_neg q]
    refine MCl_p x (fun d K => ?_)
    by_cases q1 : 0 ≤ p ∧ p ≤ 3
    · simp (disch := omega) only [zgm_0, zgm_1, zgm_2, zgm_3, zgm_4, zgm_5, zgm_6, zgm_7, zgm_8, zgm_9, zgm_10, zgm_11, zgm_12, zgm_13, zgm_14, zgm_15, zgm_16, zgm_17, zgm_18, zgm_19, zgm_20, zgm_21, zgm_22, zgm_23, zgm_24, zgm_25, zgm_26, zgm_27, zgm_28, zgm_29, zgm_30, zgm_31, zgm_32, zgm_33, zgm_34, zgm_35, zgm_36, zgm_37, zpm_4, zpm_5, zpm_6, zpm_7, zpm_8, zpm_9, zpm_10, zpm_11, zpm_12, zpm_13, zpm_14, zpm_15, zpm_16, zpm_17, zpm_18, zpm_22, zpm_23, zpm_31, zpm_32, zpm_36, zis_mo, zuN_eq, zuN_ne, zen_163, e_163_0, e_163_1, e_163_4t, e_163_4f, e_163_7, e_163_8, e_163_11t, e_163_11f, e_163_14, e_163_16, e_163_17, e_163_18, e_163_19t, e_163_19f, e_163_22, e_163_24, e_163_25, e_163_26, e_163_27, e_163_30, e_163_31, e_163_32, e_163_35, e_163_36, zPa_some, zPn_some, zRK_some, zRK_none, zCk_t, zis_ob, zget_set_eq, zget_set_ne, zAld_10, zAld_11, zAst_10, zAst_11, zAlen_10, zAlen_11, zbd_t, zbd_f, zb_t, zb_f, zset_set, s_one0, s_one1, zis_so, s_isStoneM]
    · simp (disch := omega) only [zgm_0, zgm_1, zgm_2, zgm_3, zgm_4, zgm_5, zgm_6, zgm_7, zgm_8, zgm_9, zgm_10, zgm_11, zgm_12, zgm_13, zgm_14, zgm_15, zgm_16, zgm_17, zgm_18, zgm_19, zgm_20, zgm_21, zgm_22, zgm_23, zgm_24, zgm_25, zgm_26, zgm_27, zgm_28, zgm_29, zgm_30, zgm_31, zgm_32, zgm_33, zgm_34, zgm_35, zgm_36, zgm_37, zpm_4, zpm_5, zpm_6, zpm_7, zpm_8, zpm_9, zpm_10, zpm_11, zpm_12, zpm_13, zpm_14, zpm_15, zpm_16, zpm_17, zpm_18, zpm_22, zpm_23, zpm_31, zpm_32, zpm_36, zis_mo, zuN_eq, zuN_ne, zen_163, e_163_0, e_163_1, e_163_4t, e_163_4f, e_163_7, e_163_8, e_163_11t, e_163_11f, e_163_14, e_163_16, e_163_17, e_163_18, e_163_19t, e_163_19f, e_163_22, e_163_24, e_163_25, e_163_26, e_163_27, e_163_30, e_163_31, e_163_32, e_163_35, e_163_36, zPa_some, zPn_some, zRK_some, zRK_none, zCk_t, zis_ob, zget_set_eq, zget_set_ne, zAld_10, zAld_11, zAst_10, zAst_11, zAlen_10, zAlen_11, zbd_t, zbd_f, zb_t, zb_f, zset_set, s_one0, s_one1, zis_so, s_isStoneM]
end PUB1
