/-! the two objects, made new -/
def nG (b p n sl : Nat) (M M' : zM) : Prop := (∀ a, a ≠ b → a < p → zget M' a = zget M a) ∧ M'.1 = M.1 ∧ M'.2.1 = p + n ∧ M'.2.2.1 = M.2.2.1 + sl
section NEWX
variable {b p : Nat} {M : zM} {x0 x1 x2 x3 x4 x5 x6 x7 x8 x9 x10 x11 x12 : Value}
theorem st_h {u : Option Value} (hb : zget M b = some (zOb 8 [x0, x1, x2, x3, x4, x5, x6, x7, x8, x9, x10, x11, x12])) (hs : M.2.1 = p) (hp : b < p) : ∃ M', (∀ (d : Nat) (K : zK), Ev (d + 3) 94 12 [some (.ref b), u] [] M K = Ev (d + 3) 94 23 [some (.ref b), u] [] M' K) ∧ zget M' b = some (zOb 8 [x0, x1, .ref p, x3, x4, x5, x6, x7, x8, x9, x10, x11, x12]) ∧ zget M' p = some (zOb 2 [.int (zi 10), .int (zi 0), .int (zi 0), .int (zi 0)]) ∧ nG b p 1 4 M M' := by
  obtain ⟨M1, e1, c0, f1, f2, f3, f4⟩ := s_new21 (p := p) (M := znew M 4 (zOb 2 [.int 0, .int 0, .int 0, .int 0])) (zgn_eq hs.symm) (by rw [znew_sz, hs])
  have hb1 : zget M1 b = some (zOb 8 [x0, x1, x2, x3, x4, x5, x6, x7, x8, x9, x10, x11, x12]) := (f1 b hp).trans ((zgn_ne (by omega)).trans hb)
  refine ⟨zset M1 b (zOb 8 [x0, x1, .ref p, x3, x4, x5, x6, x7, x8, x9, x10, x11, x12]), fun d K => ?_, zget_set_eq, (zget_set_ne (by omega)).trans c0, fun a h1 h2 => ?_, ?_, ?_, ?_⟩
  · simp (disch := (first | omega | (simp only [znew_sz, zset_sz]; omega))) only [zen_94, e_94_0, e_94_1, e_94_4, e_94_5, e_94_6, e_94_9, e_94_12, e_94_13, e_94_16, e_94_17, e_94_20, e_94_24, e_94_27, e_94_28, e_94_31, e_94_34, e_94_35, e_94_38, e_94_39, e_94_42, e_94_45, e_94_46, e_94_49, e_94_50, e_94_53, e_94_56, e_94_57, e_94_60, e_94_61, e_94_64, e_94_67, e_94_68, e_94_71, e_94_72, e_94_75, e_94_78, e_94_79, e_94_80, e_94_83, e_94_84, e_94_85, e_94_88, e_94_89, e_94_90, e_94_93, e_94_94, e_94_95, e_94_98, e_94_99, e_94_100, e_94_103, e_94_104, e_94_105, e_94_106, e_94_107t, e_94_107f, e_94_110, e_94_111, e_94_114, e_94_115, e_94_118, e_94_119, e_94_122, e_94_123, e_94_126, e_94_129, e_94_130, e_94_133, e_94_134, e_94_135, e_94_138, e_94_139, e_94_140, e_94_141, e_94_144, e_94_145, e_94_146, e_94_149, e_94_152, zgf_8_0, zpf_8_0, zpf_8_1, zpf_8_10, zpf_8_11, zpf_8_12, zpf_8_2, zpf_8_3, zpf_8_4, zpf_8_5, zpf_8_6, zpf_8_7, zpf_8_8, zpf_8_9, zPa_some, zPn_some, zRK_some, zRK_none, zCk_t, zis_ob, zget_set_eq, zget_set_ne, zAld_10, zAld_11, zAst_10, zAst_11, zAlen_10, zAlen_11, zbd_t, zbd_f, zb_t, zb_f, zset_set, s_one0, s_one1, zis_so, hb, hb1, hs, e1, c0, zgn_eq, zgn_ne, znew_sz, zset_sz, tn_4, tn_6, tn_12, tn_24, tn_36, tn_64, tn_192, tn_384, tn_768]
  · rw [zget_set_ne h1, f1 a h2, zgn_ne (by omega)]
  · rw [zset_st, f2, znew_st]
  · rw [zset_sz, f3]
  · rw [zset_sl, f4, znew_sl]
theorem st_g {u : Option Value} (hb : zget M b = some (zOb 8 [x0, x1, x2, x3, x4, x5, x6, x7, x8, x9, x10, x11, x12])) (hs : M.2.1 = p) (hp : b < p) : ∃ M', (∀ (d : Nat) (K : zK), Ev (d + 3) 94 23 [some (.ref b), u] [] M K = Ev (d + 3) 94 34 [some (.ref b), u] [] M' K) ∧ zget M' b = some (zOb 8 [x0, x1, x2, .ref p, x4, x5, x6, x7, x8, x9, x10, x11, x12]) ∧ zget M' p = some (zOb 1 [.int (zi 0), .int (zi 0), .int (zi 0), .int (zi 0), .int (zi 0), .int (zi 0), .int (zi 0)]) ∧ nG b p 1 7 M M' := by
  obtain ⟨M1, e1, c0, f1, f2, f3, f4⟩ := s_new11 (p := p) (M := znew M 7 (zOb 1 [.int 0, .int 0, .int 0, .int 0, .int 0, .int 0, .int 0])) (zgn_eq hs.symm) (by rw [znew_sz, hs])
  have hb1 : zget M1 b = some (zOb 8 [x0, x1, x2, x3, x4, x5, x6, x7, x8, x9, x10, x11, x12]) := (f1 b hp).trans ((zgn_ne (by omega)).trans hb)
  refine ⟨zset M1 b (zOb 8 [x0, x1, x2, .ref p, x4, x5, x6, x7, x8, x9, x10, x11, x12]), fun d K => ?_, zget_set_eq, (zget_set_ne (by omega)).trans c0, fun a h1 h2 => ?_, ?_, ?_, ?_⟩
  · simp (disch := (first | omega | (simp only [znew_sz, zset_sz]; omega))) only [zen_94, e_94_0, e_94_1, e_94_4, e_94_5, e_94_6, e_94_9, e_94_12, e_94_13, e_94_16, e_94_17, e_94_20, e_94_23, e_94_24, e_94_27, e_94_28, e_94_31, e_94_35, e_94_38, e_94_39, e_94_42, e_94_45, e_94_46, e_94_49, e_94_50, e_94_53, e_94_56, e_94_57, e_94_60, e_94_61, e_94_64, e_94_67, e_94_68, e_94_71, e_94_72, e_94_75, e_94_78, e_94_79, e_94_80, e_94_83, e_94_84, e_94_85, e_94_88, e_94_89, e_94_90, e_94_93, e_94_94, e_94_95, e_94_98, e_94_99, e_94_100, e_94_103, e_94_104, e_94_105, e_94_106, e_94_107t, e_94_107f, e_94_110, e_94_111, e_94_114, e_94_115, e_94_118, e_94_119, e_94_122, e_94_123, e_94_126, e_94_129, e_94_130, e_94_133, e_94_134, e_94_135, e_94_138, e_94_139, e_94_140, e_94_141, e_94_144, e_94_145, e_94_146, e_94_149, e_94_152, zgf_8_0, zpf_8_0, zpf_8_1, zpf_8_10, zpf_8_11, zpf_8_12, zpf_8_2, zpf_8_3, zpf_8_4, zpf_8_5, zpf_8_6, zpf_8_7, zpf_8_8, zpf_8_9, zPa_some, zPn_some, zRK_some, zRK_none, zCk_t, zis_ob, zget_set_eq, zget_set_ne, zAld_10, zAld_11, zAst_10, zAst_11, zAlen_10, zAlen_11, zbd_t, zbd_f, zb_t, zb_f, zset_set, s_one0, s_one1, zis_so, hb, hb1, hs, e1, c0, zgn_eq, zgn_ne, znew_sz, zset_sz, tn_4, tn_6, tn_12, tn_24, tn_36, tn_64, tn_192, tn_384, tn_768]
  · rw [zget_set_ne h1, f1 a h2, zgn_ne (by omega)]
  · rw [zset_st, f2, znew_st]
  · rw [zset_sz, f3]
  · rw [zset_sl, f4, znew_sl]
theorem st_t {u : Option Value} (hb : zget M b = some (zOb 8 [x0, x1, x2, x3, x4, x5, x6, x7, x8, x9, x10, x11, x12])) (hs : M.2.1 = p) (hp : b < p) : ∃ M', (∀ (d : Nat) (K : zK), Ev (d + 3) 94 34 [some (.ref b), u] [] M K = Ev (d + 3) 94 45 [some (.ref b), u] [] M' K) ∧ zget M' b = some (zOb 8 [x0, x1, x2, x3, .ref p, x5, x6, x7, x8, x9, x10, x11, x12]) ∧ zget M' p = some (zOb 7 [.ref (p + 1), .ref (p + 2), .ref (p + 3), .ref (p + 4), .int (zi 0)]) ∧ zget M' (p + 1) = some (zA 10 12 (fun _ => 0)) ∧ zget M' (p + 2) = some (zA 10 12 (fun _ => 0)) ∧ zget M' (p + 3) = some (zA 10 12 (fun _ => 0)) ∧ zget M' (p + 4) = some (zOb 2 [.int (zi 10), .int (zi 0), .int (zi 0), .int (zi 0)]) ∧ nG b p 5 45 M M' := by
  obtain ⟨M1, e1, c0, c1, c2, c3, c4, f1, f2, f3, f4⟩ := s_new88 (p := p) (M := znew M 5 (zOb 7 [.null, .null, .null, .null, .int 0])) (zgn_eq hs.symm) (by rw [znew_sz, hs])
  have hb1 : zget M1 b = some (zOb 8 [x0, x1, x2, x3, x4, x5, x6, x7, x8, x9, x10, x11, x12]) := (f1 b hp).trans ((zgn_ne (by omega)).trans hb)
  refine ⟨zset M1 b (zOb 8 [x0, x1, x2, x3, .ref p, x5, x6, x7, x8, x9, x10, x11, x12]), fun d K => ?_, zget_set_eq, (zget_set_ne (by omega)).trans c0, (zget_set_ne (by omega)).trans c1, (zget_set_ne (by omega)).trans c2, (zget_set_ne (by omega)).trans c3, (zget_set_ne (by omega)).trans c4, fun a h1 h2 => ?_, ?_, ?_, ?_⟩
  · simp (disch := (first | omega | (simp only [znew_sz, zset_sz]; omega))) only [zen_94, e_94_0, e_94_1, e_94_4, e_94_5, e_94_6, e_94_9, e_94_12, e_94_13, e_94_16, e_94_17, e_94_20, e_94_23, e_94_24, e_94_27, e_94_28, e_94_31, e_94_34, e_94_35, e_94_38, e_94_39, e_94_42, e_94_46, e_94_49, e_94_50, e_94_53, e_94_56, e_94_57, e_94_60, e_94_61, e_94_64, e_94_67, e_94_68, e_94_71, e_94_72, e_94_75, e_94_78, e_94_79, e_94_80, e_94_83, e_94_84, e_94_85, e_94_88, e_94_89, e_94_90, e_94_93, e_94_94, e_94_95, e_94_98, e_94_99, e_94_100, e_94_103, e_94_104, e_94_105, e_94_106, e_94_107t, e_94_107f, e_94_110, e_94_111, e_94_114, e_94_115, e_94_118, e_94_119, e_94_122, e_94_123, e_94_126, e_94_129, e_94_130, e_94_133, e_94_134, e_94_135, e_94_138, e_94_139, e_94_140, e_94_141, e_94_144, e_94_145, e_94_146, e_94_149, e_94_152, zgf_8_0, zpf_8_0, zpf_8_1, zpf_8_10, zpf_8_11, zpf_8_12, zpf_8_2, zpf_8_3, zpf_8_4, zpf_8_5, zpf_8_6, zpf_8_7, zpf_8_8, zpf_8_9, zPa_some, zPn_some, zRK_some, zRK_none, zCk_t, zis_ob, zget_set_eq, zget_set_ne, zAld_10, zAld_11, zAst_10, zAst_11, zAlen_10, zAlen_11, zbd_t, zbd_f, zb_t, zb_f, zset_set, s_one0, s_one1, zis_so, hb, hb1, hs, e1, c0, zgn_eq, zgn_ne, znew_sz, zset_sz, tn_4, tn_6, tn_12, tn_24, tn_36, tn_64, tn_192, tn_384, tn_768]
  · rw [zget_set_ne h1, f1 a h2, zgn_ne (by omega)]
  · rw [zset_st, f2, znew_st]
  · rw [zset_sz, f3]
  · rw [zset_sl, f4, znew_sl]
theorem st_r {u : Option Value} (hb : zget M b = some (zOb 8 [x0, x1, x2, x3, x4, x5, x6, x7, x8, x9, x10, x11, x12])) (hs : M.2.1 = p) (hp : b < p) : ∃ M', (∀ (d : Nat) (K : zK), Ev (d + 3) 94 45 [some (.ref b), u] [] M K = Ev (d + 3) 94 56 [some (.ref b), u] [] M' K) ∧ zget M' b = some (zOb 8 [x0, x1, x2, x3, x4, .ref p, x6, x7, x8, x9, x10, x11, x12]) ∧ zget M' p = some (zOb 3 [.ref (p + 1), .ref (p + 2), .int (zi 0)]) ∧ zget M' (p + 1) = some (zA 10 24 (fun _ => 0)) ∧ zget M' (p + 2) = some (zA 10 24 (fun _ => 0)) ∧ nG b p 3 51 M M' := by
  obtain ⟨M1, e1, c0, c1, c2, f1, f2, f3, f4⟩ := s_init30 (p := p) (M := znew M 3 (zOb 3 [.null, .null, .int 0])) (zgn_eq hs.symm) (by rw [znew_sz, hs])
  have hb1 : zget M1 b = some (zOb 8 [x0, x1, x2, x3, x4, x5, x6, x7, x8, x9, x10, x11, x12]) := (f1 b hp).trans ((zgn_ne (by omega)).trans hb)
  refine ⟨zset M1 b (zOb 8 [x0, x1, x2, x3, x4, .ref p, x6, x7, x8, x9, x10, x11, x12]), fun d K => ?_, zget_set_eq, (zget_set_ne (by omega)).trans c0, (zget_set_ne (by omega)).trans c1, (zget_set_ne (by omega)).trans c2, fun a h1 h2 => ?_, ?_, ?_, ?_⟩
  · simp (disch := (first | omega | (simp only [znew_sz, zset_sz]; omega))) only [zen_94, e_94_0, e_94_1, e_94_4, e_94_5, e_94_6, e_94_9, e_94_12, e_94_13, e_94_16, e_94_17, e_94_20, e_94_23, e_94_24, e_94_27, e_94_28, e_94_31, e_94_34, e_94_35, e_94_38, e_94_39, e_94_42, e_94_45, e_94_46, e_94_49, e_94_50, e_94_53, e_94_57, e_94_60, e_94_61, e_94_64, e_94_67, e_94_68, e_94_71, e_94_72, e_94_75, e_94_78, e_94_79, e_94_80, e_94_83, e_94_84, e_94_85, e_94_88, e_94_89, e_94_90, e_94_93, e_94_94, e_94_95, e_94_98, e_94_99, e_94_100, e_94_103, e_94_104, e_94_105, e_94_106, e_94_107t, e_94_107f, e_94_110, e_94_111, e_94_114, e_94_115, e_94_118, e_94_119, e_94_122, e_94_123, e_94_126, e_94_129, e_94_130, e_94_133, e_94_134, e_94_135, e_94_138, e_94_139, e_94_140, e_94_141, e_94_144, e_94_145, e_94_146, e_94_149, e_94_152, zgf_8_0, zpf_8_0, zpf_8_1, zpf_8_10, zpf_8_11, zpf_8_12, zpf_8_2, zpf_8_3, zpf_8_4, zpf_8_5, zpf_8_6, zpf_8_7, zpf_8_8, zpf_8_9, zPa_some, zPn_some, zRK_some, zRK_none, zCk_t, zis_ob, zget_set_eq, zget_set_ne, zAld_10, zAld_11, zAst_10, zAst_11, zAlen_10, zAlen_11, zbd_t, zbd_f, zb_t, zb_f, zset_set, s_one0, s_one1, zis_so, hb, hb1, hs, e1, c0, zgn_eq, zgn_ne, znew_sz, zset_sz, tn_4, tn_6, tn_12, tn_24, tn_36, tn_64, tn_192, tn_384, tn_768]
  · rw [zget_set_ne h1, f1 a h2, zgn_ne (by omega)]
  · rw [zset_st, f2, znew_st]
  · rw [zset_sz, f3]
  · rw [zset_sl, f4, znew_sl]
theorem st_m {u : Option Value} (hb : zget M b = some (zOb 8 [x0, x1, x2, x3, x4, x5, x6, x7, x8, x9, x10, x11, x12])) (hs : M.2.1 = p) (hp : b < p) : ∃ M', (∀ (d : Nat) (K : zK), Ev (d + 3) 94 56 [some (.ref b), u] [] M K = Ev (d + 3) 94 67 [some (.ref b), u] [] M' K) ∧ zget M' b = some (zOb 8 [x0, x1, x2, x3, x4, x5, .ref p, x7, x8, x9, x10, x11, x12]) ∧ zget M' p = some (zOb 4 [.ref (p + 1), .ref (p + 2), .ref (p + 3), .ref (p + 4), .int (zi 1)]) ∧ zget M' (p + 1) = some (zA 10 6 (fun _ => -1)) ∧ zget M' (p + 2) = some (zA 10 6 (fun _ => -1)) ∧ zget M' (p + 3) = some (zA 10 6 (fun _ => -1)) ∧ zget M' (p + 4) = some (zA 10 36 (fun _ => 0)) ∧ nG b p 5 59 M M' := by
  obtain ⟨M1, e1, c0, c1, c2, c3, c4, f1, f2, f3, f4⟩ := s_new38 (p := p) (M := znew M 5 (zOb 4 [.null, .null, .null, .null, .int 0])) (zgn_eq hs.symm) (by rw [znew_sz, hs])
  have hb1 : zget M1 b = some (zOb 8 [x0, x1, x2, x3, x4, x5, x6, x7, x8, x9, x10, x11, x12]) := (f1 b hp).trans ((zgn_ne (by omega)).trans hb)
  refine ⟨zset M1 b (zOb 8 [x0, x1, x2, x3, x4, x5, .ref p, x7, x8, x9, x10, x11, x12]), fun d K => ?_, zget_set_eq, (zget_set_ne (by omega)).trans c0, (zget_set_ne (by omega)).trans c1, (zget_set_ne (by omega)).trans c2, (zget_set_ne (by omega)).trans c3, (zget_set_ne (by omega)).trans c4, fun a h1 h2 => ?_, ?_, ?_, ?_⟩
  · simp (disch := (first | omega | (simp only [znew_sz, zset_sz]; omega))) only [zen_94, e_94_0, e_94_1, e_94_4, e_94_5, e_94_6, e_94_9, e_94_12, e_94_13, e_94_16, e_94_17, e_94_20, e_94_23, e_94_24, e_94_27, e_94_28, e_94_31, e_94_34, e_94_35, e_94_38, e_94_39, e_94_42, e_94_45, e_94_46, e_94_49, e_94_50, e_94_53, e_94_56, e_94_57, e_94_60, e_94_61, e_94_64, e_94_68, e_94_71, e_94_72, e_94_75, e_94_78, e_94_79, e_94_80, e_94_83, e_94_84, e_94_85, e_94_88, e_94_89, e_94_90, e_94_93, e_94_94, e_94_95, e_94_98, e_94_99, e_94_100, e_94_103, e_94_104, e_94_105, e_94_106, e_94_107t, e_94_107f, e_94_110, e_94_111, e_94_114, e_94_115, e_94_118, e_94_119, e_94_122, e_94_123, e_94_126, e_94_129, e_94_130, e_94_133, e_94_134, e_94_135, e_94_138, e_94_139, e_94_140, e_94_141, e_94_144, e_94_145, e_94_146, e_94_149, e_94_152, zgf_8_0, zpf_8_0, zpf_8_1, zpf_8_10, zpf_8_11, zpf_8_12, zpf_8_2, zpf_8_3, zpf_8_4, zpf_8_5, zpf_8_6, zpf_8_7, zpf_8_8, zpf_8_9, zPa_some, zPn_some, zRK_some, zRK_none, zCk_t, zis_ob, zget_set_eq, zget_set_ne, zAld_10, zAld_11, zAst_10, zAst_11, zAlen_10, zAlen_11, zbd_t, zbd_f, zb_t, zb_f, zset_set, s_one0, s_one1, zis_so, hb, hb1, hs, e1, c0, zgn_eq, zgn_ne, znew_sz, zset_sz, tn_4, tn_6, tn_12, tn_24, tn_36, tn_64, tn_192, tn_384, tn_768]
  · rw [zget_set_ne h1, f1 a h2, zgn_ne (by omega)]
  · rw [zset_st, f2, znew_st]
  · rw [zset_sz, f3]
  · rw [zset_sl, f4, znew_sl]
theorem st_p {u : Option Value} (hb : zget M b = some (zOb 8 [x0, x1, x2, x3, x4, x5, x6, x7, x8, x9, x10, x11, x12])) (hs : M.2.1 = p) (hp : b < p) : ∃ M', (∀ (d : Nat) (K : zK), Ev (d + 3) 94 67 [some (.ref b), u] [] M K = Ev (d + 3) 94 78 [some (.ref b), u] [] M' K) ∧ zget M' b = some (zOb 8 [x0, x1, x2, x3, x4, x5, x6, .ref p, x8, x9, x10, x11, x12]) ∧ zget M' p = some (zOb 5 [.ref (p + 1), .ref (p + 2), .ref (p + 3), .ref (p + 4), .int (zi (-1))]) ∧ zget M' (p + 1) = some (zA 10 384 (fun _ => 0)) ∧ zget M' (p + 2) = some (zA 10 64 (fun _ => 0)) ∧ zget M' (p + 3) = some (zA 10 6 (fun _ => 0)) ∧ zget M' (p + 4) = some (zA 10 6 (fun _ => 0)) ∧ nG b p 5 465 M M' := by
  obtain ⟨M1, e1, c0, c1, c2, c3, c4, f1, f2, f3, f4⟩ := s_init49 (p := p) (M := znew M 5 (zOb 5 [.null, .null, .null, .null, .int 0])) (zgn_eq hs.symm) (by rw [znew_sz, hs])
  have hb1 : zget M1 b = some (zOb 8 [x0, x1, x2, x3, x4, x5, x6, x7, x8, x9, x10, x11, x12]) := (f1 b hp).trans ((zgn_ne (by omega)).trans hb)
  refine ⟨zset M1 b (zOb 8 [x0, x1, x2, x3, x4, x5, x6, .ref p, x8, x9, x10, x11, x12]), fun d K => ?_, zget_set_eq, (zget_set_ne (by omega)).trans c0, (zget_set_ne (by omega)).trans c1, (zget_set_ne (by omega)).trans c2, (zget_set_ne (by omega)).trans c3, (zget_set_ne (by omega)).trans c4, fun a h1 h2 => ?_, ?_, ?_, ?_⟩
  · simp (disch := (first | omega | (simp only [znew_sz, zset_sz]; omega))) only [zen_94, e_94_0, e_94_1, e_94_4, e_94_5, e_94_6, e_94_9, e_94_12, e_94_13, e_94_16, e_94_17, e_94_20, e_94_23, e_94_24, e_94_27, e_94_28, e_94_31, e_94_34, e_94_35, e_94_38, e_94_39, e_94_42, e_94_45, e_94_46, e_94_49, e_94_50, e_94_53, e_94_56, e_94_57, e_94_60, e_94_61, e_94_64, e_94_67, e_94_68, e_94_71, e_94_72, e_94_75, e_94_79, e_94_80, e_94_83, e_94_84, e_94_85, e_94_88, e_94_89, e_94_90, e_94_93, e_94_94, e_94_95, e_94_98, e_94_99, e_94_100, e_94_103, e_94_104, e_94_105, e_94_106, e_94_107t, e_94_107f, e_94_110, e_94_111, e_94_114, e_94_115, e_94_118, e_94_119, e_94_122, e_94_123, e_94_126, e_94_129, e_94_130, e_94_133, e_94_134, e_94_135, e_94_138, e_94_139, e_94_140, e_94_141, e_94_144, e_94_145, e_94_146, e_94_149, e_94_152, zgf_8_0, zpf_8_0, zpf_8_1, zpf_8_10, zpf_8_11, zpf_8_12, zpf_8_2, zpf_8_3, zpf_8_4, zpf_8_5, zpf_8_6, zpf_8_7, zpf_8_8, zpf_8_9, zPa_some, zPn_some, zRK_some, zRK_none, zCk_t, zis_ob, zget_set_eq, zget_set_ne, zAld_10, zAld_11, zAst_10, zAst_11, zAlen_10, zAlen_11, zbd_t, zbd_f, zb_t, zb_f, zset_set, s_one0, s_one1, zis_so, hb, hb1, hs, e1, c0, zgn_eq, zgn_ne, znew_sz, zset_sz, tn_4, tn_6, tn_12, tn_24, tn_36, tn_64, tn_192, tn_384, tn_768]
  · rw [zget_set_ne h1, f1 a h2, zgn_ne (by omega)]
  · rw [zset_st, f2, znew_st]
  · rw [zset_sz, f3]
  · rw [zset_sl, f4, znew_sl]
theorem l_94 (x1 x2 x3 x4 x5 x6 x7 x8 x9 x10 x11 x12 : Value) : ∀ (n : Nat) (k : Int) (f : Int → Option Nat) (M : zM), zget M b = some (zOb 8 [.ref (b + 1), x1, x2, x3, x4, x5, x6, x7, x8, x9, x10, x11, x12]) → zget M (b + 1) = some (zAr 4 f) → M.2.1 = zst b k → k + n = 4 → 0 ≤ k → (∀ j, 0 ≤ j → j < k → f j = some (zst b j) ∧ XS1 (zst b j) (dQ 1 1 1 0) (fun _ => false) (gH (dQ 1 1 1 0)) M) → ∃ M' f', (∀ (d : Nat) (K : zK), Ev (d + 9) 94 107 [some (.ref b), some (.int (zi k))] [.int (zi 4), .int (zi k)] M K = Ev (d + 9) 94 129 [some (.ref b), some (.int (zi 4))] [] M' K) ∧ zget M' (b + 1) = some (zAr 4 f') ∧ (∀ j, 0 ≤ j → j < 4 → f' j = some (zst b j) ∧ XS1 (zst b j) (dQ 1 1 1 0) (fun _ => false) (gH (dQ 1 1 1 0)) M') ∧ (∀ j, ¬ (k ≤ j ∧ j < 4) → f' j = f j) ∧ (∀ a, a ≠ b + 1 → a < zst b k → zget M' a = zget M a) ∧ M'.1 = M.1 ∧ M'.2.1 = zst b 4 ∧ M'.2.2.1 = M.2.2.1 + 629 * n := by
  intro n
  induction n with
  | zero =>
    intro k f M hb h1 hs hk q0 hx
    obtain rfl : k = 4 := (by omega)
    refine ⟨M, f, fun d K => ?_, h1, fun j j1 j2 => hx j j1 j2, fun _ _ => rfl, fun _ _ _ => rfl, rfl, hs, rfl⟩
    simp (disch := omega) only [zen_94, e_94_0, e_94_1, e_94_4, e_94_5, e_94_6, e_94_9, e_94_12, e_94_13, e_94_16, e_94_17, e_94_20, e_94_23, e_94_24, e_94_27, e_94_28, e_94_31, e_94_34, e_94_35, e_94_38, e_94_39, e_94_42, e_94_45, e_94_46, e_94_49, e_94_50, e_94_53, e_94_56, e_94_57, e_94_60, e_94_61, e_94_64, e_94_67, e_94_68, e_94_71, e_94_72, e_94_75, e_94_78, e_94_79, e_94_80, e_94_83, e_94_84, e_94_85, e_94_88, e_94_89, e_94_90, e_94_93, e_94_94, e_94_95, e_94_98, e_94_99, e_94_100, e_94_103, e_94_104, e_94_105, e_94_106, e_94_107t, e_94_107f, e_94_110, e_94_111, e_94_114, e_94_115, e_94_118, e_94_119, e_94_122, e_94_123, e_94_126, e_94_130, e_94_133, e_94_134, e_94_135, e_94_138, e_94_139, e_94_140, e_94_141, e_94_144, e_94_145, e_94_146, e_94_149, e_94_152, zgf_8_0, zpf_8_0, zpf_8_1, zpf_8_10, zpf_8_11, zpf_8_12, zpf_8_2, zpf_8_3, zpf_8_4, zpf_8_5, zpf_8_6, zpf_8_7, zpf_8_8, zpf_8_9, zPa_some, zPn_some, zRK_some, zRK_none, zCk_t, zis_ob, zget_set_eq, zget_set_ne, zAld_10, zAld_11, zAst_10, zAst_11, zAlen_10, zAlen_11, zbd_t, zbd_f, zb_t, zb_f, zset_set, s_one0, s_one1, zis_so]
  | succ n ih =>
    intro k f M hb h1 hs hk q0 hx
    have z1 : b + 22 ≤ zst b k := by unfold zst; omega
    have z2 : zst b (k + 1) = zst b k + 6 := by unfold zst; omega
    obtain ⟨M1, e1, e2, f1, f2, f3, f4⟩ := s_new63 (p := zst b k) (M := znew M 5 (zOb 6 [.null, .null, .null, .null, .null])) (zgn_eq hs.symm) (by rw [znew_sz, hs])
    have lo : ∀ a, a < zst b k → zget M1 a = zget M a := fun a h => (f1 a h).trans (zgn_ne (by omega))
    have hb1 := (lo b (by omega)).trans hb
    have h11 := (lo (b + 1) (by omega)).trans h1
    have s0 : zget M1 (zst b k) = some (zOb 6 [.ref (zst b k + 1), .ref (zst b k + 2), .ref (zst b k + 3), .ref (zst b k + 4), .ref (zst b k + 5)]) := e2.1
    have ast := zAst_12 (M := M1) (a := b + 1) (n := 4) (x := zst b k) (f := f) (i := k) (by omega) s0
    have fr : zFr (b + 1) 1 M1 (zset M1 (b + 1) (zAr 4 (fun j => if j = k then some (zst b k) else f j))) := zFr_set (by omega)
    obtain ⟨M', f', a1, a2, a3, a30, a4, a5, a6, a7⟩ := ih (k + 1) (fun j => if j = k then some (zst b k) else f j) (zset M1 (b + 1) (zAr 4 (fun j => if j = k then some (zst b k) else f j))) ((zget_set_ne (by omega)).trans hb1) zget_set_eq (by rw [zset_sz, f3, z2]) (by omega) (by omega) (fun j j1 j2 => by
      have zj : b + 22 ≤ zst b j := by unfold zst; omega
      by_cases c : j = k
      · subst c
        exact ⟨if_pos rfl, XS1_fr e2 fr (by omega)⟩
      · have zj2 : zst b j + 6 ≤ zst b k := by unfold zst; omega
        obtain ⟨y1, y2⟩ := hx j j1 (by omega)
        refine ⟨(if_neg c).trans y1, XS1_fr ?_ fr (by omega)⟩
        obtain ⟨q1, q2, q3, q4, ⟨A, q5⟩, B, q6⟩ := y2
        exact ⟨(lo _ (by omega)).trans q1, (lo _ (by omega)).trans q2, (lo _ (by omega)).trans q3, (lo _ (by omega)).trans q4, ⟨A, (lo _ (by omega)).trans q5⟩, B, (lo _ (by omega)).trans q6⟩)
    refine ⟨M', f', fun d K => ?_, a2, a3, fun j hj => (a30 j (by omega)).trans (if_neg (by omega)), fun a h2 h3 => ?_, ?_, a6, ?_⟩
    · rw [← a1 d K]
      have is : zis (zget (znew M 5 (zOb 6 [.null, .null, .null, .null, .null])) (zst b k)) 6 = true := by rw [zgn_eq hs.symm]; rfl
      simp (disch := (first | omega | (simp only [znew_sz, zset_sz]; omega))) only [zen_94, e_94_0, e_94_1, e_94_4, e_94_5, e_94_6, e_94_9, e_94_12, e_94_13, e_94_16, e_94_17, e_94_20, e_94_23, e_94_24, e_94_27, e_94_28, e_94_31, e_94_34, e_94_35, e_94_38, e_94_39, e_94_42, e_94_45, e_94_46, e_94_49, e_94_50, e_94_53, e_94_56, e_94_57, e_94_60, e_94_61, e_94_64, e_94_67, e_94_68, e_94_71, e_94_72, e_94_75, e_94_78, e_94_79, e_94_80, e_94_83, e_94_84, e_94_85, e_94_88, e_94_89, e_94_90, e_94_93, e_94_94, e_94_95, e_94_98, e_94_99, e_94_100, e_94_103, e_94_104, e_94_105, e_94_106, e_94_107t, e_94_107f, e_94_110, e_94_111, e_94_114, e_94_115, e_94_118, e_94_119, e_94_122, e_94_123, e_94_126, e_94_130, e_94_133, e_94_134, e_94_135, e_94_138, e_94_139, e_94_140, e_94_141, e_94_144, e_94_145, e_94_146, e_94_149, e_94_152, zgf_8_0, zpf_8_0, zpf_8_1, zpf_8_10, zpf_8_11, zpf_8_12, zpf_8_2, zpf_8_3, zpf_8_4, zpf_8_5, zpf_8_6, zpf_8_7, zpf_8_8, zpf_8_9, zPa_some, zPn_some, zRK_some, zRK_none, zCk_t, zis_ob, zget_set_eq, zget_set_ne, zAld_10, zAld_11, zAst_10, zAst_11, zAlen_10, zAlen_11, zbd_t, zbd_f, zb_t, zb_f, zset_set, s_one0, s_one1, zis_so, hb, hs, e1, is, h11, ast]
    · rw [a4 a h2 (by omega), zget_set_ne h2, lo a h3]
    · rw [a5, zset_st, f2, znew_st]
    · rw [a7, zset_sl, f4, znew_sl]
      omega
end NEWX
def v0N : Nat → Int := fun j => if j = 5 then 1 else if j = 6 then 10 else if j = 31 then 1 else 0
def F0N : Int → Bool := fun s => dQ 1 1 1 0 (s % 192)
def C0N : Int → Bool := fun _ => false
def G0N : Int → Int := gH F0N
def R0N : Nat → Int → Int := fun _ _ => 0
def D0N : Int → Bool := fun _ => false
theorem RI_new : RI v0N G0N R0N D0N := ⟨⟨by decide, by decide, by decide, by decide⟩, fun j _ _ => gH_rng _ _, fun j _ _ => ⟨(by unfold R0N; omega), (by unfold R0N; omega), (by unfold R0N; omega), (by unfold R0N; omega), (by unfold R0N; omega), (by unfold R0N; omega)⟩, fun j _ _ => ⟨(by unfold R0N; omega), (by unfold R0N; omega), (by unfold R0N; omega), (by unfold R0N; omega)⟩, fun j _ _ => ⟨(by unfold R0N; omega), (by unfold R0N; omega), (by unfold R0N; omega), (by unfold R0N; omega), (by unfold R0N; omega), (by unfold R0N; omega), fun z => (by cases z)⟩, fun j _ _ => ⟨(by unfold R0N; omega), (by unfold R0N; omega)⟩⟩
theorem x_new {b : Nat} {M : zM} (hb : zget M b = some (zOb 8 [.null, .null, .null, .null, .null, .null, .null, .null, .int 0, .int 0, .int 0, .int 0, .int 0])) (hs : M.2.1 = b + 1) : ∃ M', (∀ (d : Nat) (K : zK), zC (d + 10) 94 [.ref b] M K = K none M') ∧ XI b v0N F0N C0N G0N R0N D0N M' ∧ (∀ a, a < b → zget M' a = zget M a) ∧ M'.1 = M.1 ∧ M'.2.1 = b + 47 ∧ M'.2.2.1 ≤ M.2.2.1 + 10000 := by
  have hbA : zget (zset (znew M 4 (zAr 4 (fun _ => none))) b (zOb 8 [.ref (b + 1), .null, .null, .null, .null, .null, .null, .null, .int 0, .int 0, .int 0, .int 0, .int 0])) b = some (zOb 8 [.ref (b + 1), .null, .null, .null, .null, .null, .null, .null, .int 0, .int 0, .int 0, .int 0, .int 0]) := zget_set_eq
  obtain ⟨M1, e1, b1, c10, f1, g1, s1, t1⟩ := st_h (p := b + 2) (u := none) hbA (by rw [zset_sz, znew_sz, hs]) (by omega)
  obtain ⟨M2, e2, b2, c20, f2, g2, s2, t2⟩ := st_g (p := b + 3) (u := none) b1 s1 (by omega)
  obtain ⟨M3, e3, b3, c30, c31, c32, c33, c34, f3, g3, s3, t3⟩ := st_t (p := b + 4) (u := none) b2 s2 (by omega)
  obtain ⟨M4, e4, b4, c40, c41, c42, f4, g4, s4, t4⟩ := st_r (p := b + 9) (u := none) b3 s3 (by omega)
  obtain ⟨M5, e5, b5, c50, c51, c52, c53, c54, f5, g5, s5, t5⟩ := st_m (p := b + 12) (u := none) b4 s4 (by omega)
  obtain ⟨M6, e6, b6, c60, c61, c62, c63, c64, f6, g6, s6, t6⟩ := st_p (p := b + 17) (u := none) b5 s5 (by omega)
  obtain ⟨M7, hM7⟩ : ∃ M7, M7 = zset M6 b (zOb 8 [.ref (b + 1), .null, .ref (b + 2), .ref (b + 3), .ref (b + 4), .ref (b + 9), .ref (b + 12), .ref (b + 17), .int (zi 0), .int (zi 1), .int (zi 0), .int (zi 0), .int (zi 0)]) := ⟨_, rfl⟩
  have b7 : zget M7 b = some (zOb 8 [.ref (b + 1), .null, .ref (b + 2), .ref (b + 3), .ref (b + 4), .ref (b + 9), .ref (b + 12), .ref (b + 17), .int (zi 0), .int (zi 1), .int (zi 0), .int (zi 0), .int (zi 0)]) := by rw [hM7]; exact zget_set_eq
  have up7 : ∀ a, a ≠ b → a < b + 17 → zget M7 a = zget M5 a := fun a h1 h2 => by rw [hM7, zget_set_ne h1, f6 a h1 h2]
  have up7b : ∀ a, a ≠ b → zget M7 a = zget M6 a := fun a h1 => by rw [hM7, zget_set_ne h1]
  have r1 : zget M7 (b + 1) = some (zAr 4 (fun _ => none)) := by
    rw [up7 _ (by omega) (by omega), f5 _ (by omega) (by omega), f4 _ (by omega) (by omega), f3 _ (by omega) (by omega), f2 _ (by omega) (by omega), f1 _ (by omega) (by omega), zget_set_ne (by omega)]
    exact zgn_eq (by omega)
  have s7 : M7.2.1 = zst b 0 := by rw [hM7, zset_sz, s6]; rfl
  obtain ⟨M8, f', e8, r8, q8, o8, f8, g8, s8, t8⟩ := l_94 .null (.ref (b + 2)) (.ref (b + 3)) (.ref (b + 4)) (.ref (b + 9)) (.ref (b + 12)) (.ref (b + 17)) (.int (zi 0)) (.int (zi 1)) (.int (zi 0)) (.int (zi 0)) (.int (zi 0)) 4 0 _ M7 b7 r1 s7 (by omega) (by omega) (fun j j1 j2 => by omega)
  have s8b : M8.2.1 = b + 46 := by rw [s8]; rfl
  have b8 := (f8 b (by omega) (by unfold zst; omega)).trans b7
  obtain ⟨M', hM'⟩ : ∃ M', M' = zset (zset (znew M8 2 (zOb 0 [.null, .null])) (b + 46) (zOb 0 [.ref (zst b 0), .ref (zst b 1)])) b (zOb 8 [.ref (b + 1), .ref (b + 46), .ref (b + 2), .ref (b + 3), .ref (b + 4), .ref (b + 9), .ref (b + 12), .ref (b + 17), .int (zi 0), .int (zi 1), .int (zi 0), .int (zi 0), .int (zi 0)]) := ⟨_, rfl⟩
  have upL : ∀ a, a ≠ b → a < b + 46 → zget M' a = zget M8 a := fun a h1 h2 => by rw [hM', zget_set_ne h1, zget_set_ne (by omega), zgn_ne (by omega)]
  have up8 : ∀ a, a ≠ b → a ≠ b + 1 → a < b + 22 → zget M' a = zget M6 a := fun a h1 h2 h3 => by
    rw [upL a h1 (by omega), f8 a h2 (by unfold zst; omega), up7b a h1]
  refine ⟨M', fun d K => ?_, ⟨⟨?_, ?_, ?_⟩, fun k k1 k2 => ?_, ?_, ⟨fun _ => 0, ?_⟩, ⟨?_, ?_, ?_, ?_, fun j => if j = 0 then 10 else 0, ?_⟩, ⟨?_, ?_, ?_⟩, ⟨?_, ?_, ?_, ?_, ?_⟩, ⟨-1, fun _ => 0, fun _ => 0, fun _ => 0, fun _ => 0, ?_, ?_, ?_, ?_, ?_⟩⟩, fun a ha => ?_, ?_, ?_, ?_⟩
  · have q0 := q8 0 (by omega) (by omega)
    have q1 := q8 1 (by omega) (by omega)
    have al0 : zAld 12 (some (zAr 4 f')) (zi 0) = some (.ref (zst b 0)) := by rw [zAld_12 (by omega), q0.1]; rfl
    have al1 : zAld 12 (some (zAr 4 f')) (zi 1) = some (.ref (zst b 1)) := by rw [zAld_12 (by omega), q1.1]; rfl
    have p0 := q0.2.1
    have p1 := q1.2.1
    have n0 : zst b 0 < b + 46 := by unfold zst; omega
    have n1 : zst b 1 < b + 46 := by unfold zst; omega
    simp (disch := (first | omega | (simp only [znew_sz, zset_sz]; omega))) only [zen_94, e_94_0, e_94_1, e_94_4, e_94_5, e_94_6, e_94_9, e_94_13, e_94_16, e_94_17, e_94_20, e_94_23, e_94_24, e_94_27, e_94_28, e_94_31, e_94_34, e_94_35, e_94_38, e_94_39, e_94_42, e_94_45, e_94_46, e_94_49, e_94_50, e_94_53, e_94_56, e_94_57, e_94_60, e_94_61, e_94_64, e_94_67, e_94_68, e_94_71, e_94_72, e_94_75, e_94_78, e_94_79, e_94_80, e_94_83, e_94_84, e_94_85, e_94_88, e_94_89, e_94_90, e_94_93, e_94_94, e_94_95, e_94_98, e_94_99, e_94_100, e_94_103, e_94_104, e_94_105, e_94_106, e_94_107t, e_94_107f, e_94_110, e_94_111, e_94_114, e_94_115, e_94_118, e_94_119, e_94_122, e_94_123, e_94_126, e_94_129, e_94_130, e_94_133, e_94_134, e_94_135, e_94_138, e_94_139, e_94_140, e_94_141, e_94_144, e_94_145, e_94_146, e_94_149, e_94_152, zgf_8_0, zpf_8_0, zpf_8_1, zpf_8_10, zpf_8_11, zpf_8_12, zpf_8_2, zpf_8_3, zpf_8_4, zpf_8_5, zpf_8_6, zpf_8_7, zpf_8_8, zpf_8_9, zPa_some, zPn_some, zRK_some, zRK_none, zCk_t, zis_ob, zget_set_eq, zget_set_ne, zAld_10, zAld_11, zAst_10, zAst_11, zAlen_10, zAlen_11, zbd_t, zbd_f, zb_t, zb_f, zset_set, s_one0, s_one1, zis_so, hb, hs, zgn_eq, zgn_ne, znew_sz, zset_sz, tn_4, tn_6, tn_12, tn_24, tn_36, tn_64, tn_192, tn_384, tn_768]
    have e1' := e1 (d + 6)
    rw [e1', e2 (d + 6), e3 (d + 6), e4 (d + 6), e5 (d + 6), e6 (d + 6)]
    simp (disch := (first | omega | (simp only [znew_sz, zset_sz]; omega))) only [zen_94, e_94_0, e_94_1, e_94_4, e_94_5, e_94_6, e_94_9, e_94_13, e_94_16, e_94_17, e_94_20, e_94_23, e_94_24, e_94_27, e_94_28, e_94_31, e_94_34, e_94_35, e_94_38, e_94_39, e_94_42, e_94_45, e_94_46, e_94_49, e_94_50, e_94_53, e_94_56, e_94_57, e_94_60, e_94_61, e_94_64, e_94_67, e_94_68, e_94_71, e_94_72, e_94_75, e_94_78, e_94_79, e_94_80, e_94_83, e_94_84, e_94_85, e_94_88, e_94_89, e_94_90, e_94_93, e_94_94, e_94_95, e_94_98, e_94_99, e_94_100, e_94_103, e_94_104, e_94_105, e_94_106, e_94_110, e_94_111, e_94_114, e_94_115, e_94_118, e_94_119, e_94_122, e_94_123, e_94_126, e_94_129, e_94_130, e_94_133, e_94_134, e_94_135, e_94_138, e_94_139, e_94_140, e_94_141, e_94_144, e_94_145, e_94_146, e_94_149, e_94_152, zgf_8_0, zpf_8_0, zpf_8_1, zpf_8_10, zpf_8_11, zpf_8_12, zpf_8_2, zpf_8_3, zpf_8_4, zpf_8_5, zpf_8_6, zpf_8_7, zpf_8_8, zpf_8_9, zPa_some, zPn_some, zRK_some, zRK_none, zCk_t, zis_ob, zget_set_eq, zget_set_ne, zAld_10, zAld_11, zAst_10, zAst_11, zAlen_10, zAlen_11, zbd_t, zbd_f, zb_t, zb_f, zset_set, s_one0, s_one1, zis_so, b6]
    rw [← hM7, e8 d K]
    simp (disch := (first | omega | (simp only [znew_sz, zset_sz]; omega))) only [zen_94, e_94_0, e_94_1, e_94_4, e_94_5, e_94_6, e_94_9, e_94_13, e_94_16, e_94_17, e_94_20, e_94_23, e_94_24, e_94_27, e_94_28, e_94_31, e_94_34, e_94_35, e_94_38, e_94_39, e_94_42, e_94_45, e_94_46, e_94_49, e_94_50, e_94_53, e_94_56, e_94_57, e_94_60, e_94_61, e_94_64, e_94_67, e_94_68, e_94_71, e_94_72, e_94_75, e_94_78, e_94_79, e_94_80, e_94_83, e_94_84, e_94_85, e_94_88, e_94_89, e_94_90, e_94_93, e_94_94, e_94_95, e_94_98, e_94_99, e_94_100, e_94_103, e_94_104, e_94_105, e_94_106, e_94_110, e_94_111, e_94_114, e_94_115, e_94_118, e_94_119, e_94_122, e_94_123, e_94_126, e_94_129, e_94_130, e_94_133, e_94_134, e_94_135, e_94_138, e_94_139, e_94_140, e_94_141, e_94_144, e_94_145, e_94_146, e_94_149, e_94_152, zgf_8_0, zpf_8_0, zpf_8_1, zpf_8_10, zpf_8_11, zpf_8_12, zpf_8_2, zpf_8_3, zpf_8_4, zpf_8_5, zpf_8_6, zpf_8_7, zpf_8_8, zpf_8_9, zen_0, e_0_0, e_0_1, e_0_4, e_0_5, e_0_6, e_0_9, e_0_10, e_0_11, e_0_14, zpf_0_0, zpf_0_1, zPa_some, zPn_some, zRK_some, zRK_none, zCk_t, zis_ob, zget_set_eq, zget_set_ne, zAld_10, zAld_11, zAst_10, zAst_11, zAlen_10, zAlen_11, zbd_t, zbd_f, zb_t, zb_f, zset_set, s_one0, s_one1, zis_so, b8, s8b, r8, al0, al1, p0, p1, zgn_eq, zgn_ne, znew_sz, zset_sz]
    rw [hM']
  · rw [hM']; exact zget_set_eq
  · rw [upL _ (by omega) (by omega), r8]
    refine congrArg (fun f => some (zAr 4 f)) (funext (fun j => ?_))
    by_cases c : 0 ≤ j ∧ j < 4
    · rw [if_pos c]; exact (q8 j c.1 c.2).1
    · rw [if_neg c]; exact o8 j c
  · rw [hM', zget_set_ne (by omega)]; exact zget_set_eq
  · have q := (q8 k k1 (by omega)).2
    have zr := zst_rng (b := b) (k := k) ⟨k1, k2⟩
    have q' : XS1 (zst b k) (dQ 1 1 1 0) (fun _ => false) (gH (dQ 1 1 1 0)) M' := by
      obtain ⟨y1, y2, y3, y4, ⟨A, y5⟩, B, y6⟩ := q
      exact ⟨(upL _ (by omega) (by omega)).trans y1, (upL _ (by omega) (by omega)).trans y2, (upL _ (by omega) (by omega)).trans y3, (upL _ (by omega) (by omega)).trans y4, ⟨A, (upL _ (by omega) (by omega)).trans y5⟩, B, (upL _ (by omega) (by omega)).trans y6⟩
    refine XS1_ext q' (fun j j1 j2 => ?_) (fun _ _ _ => rfl) (fun j j1 j2 => ?_)
    · unfold sh F0N
      rw [show (192 * k + j) % 192 = j by omega]
    · unfold sh G0N gH F0N
      rw [show (192 * k + j) % 192 = j by omega]
  · exact (up8 _ (by omega) (by omega) (by omega)).trans ((f6 _ (by omega) (by omega)).trans ((f5 _ (by omega) (by omega)).trans ((f4 _ (by omega) (by omega)).trans ((f3 _ (by omega) (by omega)).trans ((f2 _ (by omega) (by omega)).trans c10)))))
  · exact (up8 _ (by omega) (by omega) (by omega)).trans ((f6 _ (by omega) (by omega)).trans ((f5 _ (by omega) (by omega)).trans ((f4 _ (by omega) (by omega)).trans ((f3 _ (by omega) (by omega)).trans c20))))
  · exact (up8 _ (by omega) (by omega) (by omega)).trans ((f6 _ (by omega) (by omega)).trans ((f5 _ (by omega) (by omega)).trans ((f4 _ (by omega) (by omega)).trans c30)))
  · exact (up8 _ (by omega) (by omega) (by omega)).trans ((f6 _ (by omega) (by omega)).trans ((f5 _ (by omega) (by omega)).trans ((f4 _ (by omega) (by omega)).trans c31)))
  · exact (up8 _ (by omega) (by omega) (by omega)).trans ((f6 _ (by omega) (by omega)).trans ((f5 _ (by omega) (by omega)).trans ((f4 _ (by omega) (by omega)).trans c32)))
  · exact (up8 _ (by omega) (by omega) (by omega)).trans ((f6 _ (by omega) (by omega)).trans ((f5 _ (by omega) (by omega)).trans ((f4 _ (by omega) (by omega)).trans c33)))
  · exact (up8 _ (by omega) (by omega) (by omega)).trans ((f6 _ (by omega) (by omega)).trans ((f5 _ (by omega) (by omega)).trans ((f4 _ (by omega) (by omega)).trans c34)))
  · exact (up8 _ (by omega) (by omega) (by omega)).trans ((f6 _ (by omega) (by omega)).trans ((f5 _ (by omega) (by omega)).trans c40))
  · exact (up8 _ (by omega) (by omega) (by omega)).trans ((f6 _ (by omega) (by omega)).trans ((f5 _ (by omega) (by omega)).trans c41))
  · exact (up8 _ (by omega) (by omega) (by omega)).trans ((f6 _ (by omega) (by omega)).trans ((f5 _ (by omega) (by omega)).trans c42))
  · exact (up8 _ (by omega) (by omega) (by omega)).trans ((f6 _ (by omega) (by omega)).trans c50)
  · exact (up8 _ (by omega) (by omega) (by omega)).trans ((f6 _ (by omega) (by omega)).trans c51)
  · exact (up8 _ (by omega) (by omega) (by omega)).trans ((f6 _ (by omega) (by omega)).trans c52)
  · exact (up8 _ (by omega) (by omega) (by omega)).trans ((f6 _ (by omega) (by omega)).trans c53)
  · exact (up8 _ (by omega) (by omega) (by omega)).trans ((f6 _ (by omega) (by omega)).trans c54)
  · exact (up8 _ (by omega) (by omega) (by omega)).trans c60
  · exact (up8 _ (by omega) (by omega) (by omega)).trans c61
  · exact (up8 _ (by omega) (by omega) (by omega)).trans c62
  · exact (up8 _ (by omega) (by omega) (by omega)).trans c63
  · exact (up8 _ (by omega) (by omega) (by omega)).trans c64
  · rw [upL a (by omega) (by omega), f8 a (by omega) (by unfold zst; omega), up7b a (by omega), f6 a (by omega) (by omega), f5 a (by omega) (by omega), f4 a (by omega) (by omega), f3 a (by omega) (by omega), f2 a (by omega) (by omega), f1 a (by omega) (by omega), zget_set_ne (by omega), zgn_ne (by omega)]
  · rw [hM', zset_st, zset_st, znew_st, g8, hM7, zset_st, g6, g5, g4, g3, g2, g1, zset_st, znew_st]
  · rw [hM', zset_sz, zset_sz, znew_sz, s8b]
  · rw [hM', zset_sl, zset_sl, znew_sl, t8, hM7, zset_sl, t6, t5, t4, t3, t2, t1, zset_sl, znew_sl]
    omega
