/-! a grain's way: the class -/
def goS (F1 : Int → Bool) (r s : Int) : Int := if r < 8 then (if F1 (r * 24 + s % 24) = true then s else if F1 (r * 24 + (s + 1) % 24) = true then (s + 1) % 24 else if F1 (r * 24 + (s - 1) % 24) = true then (s - 1) % 24 else s) else s
def btS (F1 F2 : Int → Bool) (g : Int → Int → Int → Int) (r s t z c w : Int) : Int × Int × Int × Int × Int :=
  if F1 (r * 24 + s % 24) = true then
    (if F2 (r * 24 + (t - s) % 24) = true then (r + 1, goS F1 (r + 1) s, min z (max ((3 * z + 3) / 4) (g r s t)), c + 1, w) else (r, s, z, c, w))
  else (if F2 (r * 24 + (t - s) % 24) = true then (r, (s + 1) % 24, z, c, w)
    else (r, if t % 2 = 0 then (s + 1) % 24 else s, if g r s t < z then z - 1 else z, c, if g r s t < z then w + 1 else w))
def tvS (F1 F2 : Int → Bool) (g : Int → Int → Int → Int) : Nat → Int → Int → Int → Int → Int → Int → Int → Int × Int × Int × Int × Int × Int
  | 0, r, s, _, z, c, w, e => (r, s, z, c, w, e)
  | n + 1, r, s, t, z, c, w, e => if r < 8 then tvS F1 F2 g n (btS F1 F2 g r s t z c w).1 (btS F1 F2 g r s t z c w).2.1 ((t + 1) % 24) (btS F1 F2 g r s t z c w).2.2.1 (btS F1 F2 g r s t z c w).2.2.2.1 (btS F1 F2 g r s t z c w).2.2.2.2 (e + 1) else (r, s, z, c, w, e)
theorem goS_rng {F1 : Int → Bool} {r s : Int} (h : 0 ≤ s ∧ s ≤ 23) : 0 ≤ goS F1 r s ∧ goS F1 r s ≤ 23 := by
  unfold goS
  split
  · split
    · exact h
    · split
      · omega
      · split
        · omega
        · exact h
  · exact h
theorem btS_rng {F1 F2 : Int → Bool} {g : Int → Int → Int → Int} {r s t z c w : Int} (h : 0 ≤ r ∧ r ≤ 7 ∧ 0 ≤ s ∧ s ≤ 23 ∧ 1 ≤ z ∧ z ≤ 100) (hg : 1 ≤ g r s t) : (0 ≤ (btS F1 F2 g r s t z c w).1 ∧ (btS F1 F2 g r s t z c w).1 ≤ 8) ∧ (0 ≤ (btS F1 F2 g r s t z c w).2.1 ∧ (btS F1 F2 g r s t z c w).2.1 ≤ 23) ∧ 1 ≤ (btS F1 F2 g r s t z c w).2.2.1 ∧ (btS F1 F2 g r s t z c w).2.2.1 ≤ 100 := by
  unfold btS
  split
  · split
    · have := goS_rng (F1 := F1) (r := r + 1) (s := s) (by omega)
      dsimp only
      omega
    · dsimp only
      omega
  · split
    · dsimp only
      omega
    · dsimp only
      refine ⟨by omega, ?_, ?_⟩
      · split <;> omega
      · split <;> omega
theorem tvS_t {F1 F2 : Int → Bool} {g : Int → Int → Int → Int} {n : Nat} {r s t z c w e : Int} (h : r < 8) : tvS F1 F2 g (n + 1) r s t z c w e = tvS F1 F2 g n (btS F1 F2 g r s t z c w).1 (btS F1 F2 g r s t z c w).2.1 ((t + 1) % 24) (btS F1 F2 g r s t z c w).2.2.1 (btS F1 F2 g r s t z c w).2.2.2.1 (btS F1 F2 g r s t z c w).2.2.2.2 (e + 1) := if_pos h
theorem tvS_f {F1 F2 : Int → Bool} {g : Int → Int → Int → Int} {n : Nat} {r s t z c w e : Int} (h : ¬ r < 8) : tvS F1 F2 g n r s t z c w e = (r, s, z, c, w, e) := by
  cases n with
  | zero => rfl
  | succ n => exact if_neg h
def gC (r s t z c w e : Int) : zE := zOb 1 [.int (zi r), .int (zi s), .int (zi t), .int (zi z), .int (zi c), .int (zi w), .int (zi e)]
section GRX
variable {b : Nat} {v : Nat → Int} {F C D : Int → Bool} {G : Int → Int} {R : Nat → Int → Int} {M : zM} {r s t z c w e : Int}
def GX (b : Nat) (v : Nat → Int) (F C : Int → Bool) (G : Int → Int) (r s t z c w e : Int) (M : zM) : Prop := XO b v M ∧ XS b F C G M ∧ XH b v M ∧ SL M ∧ zget M (b + 3) = some (gC r s t z c w e) ∧ (M.1 < b ∨ b + 47 ≤ M.1)
theorem GX_set {r' s' t' z' c' w' e' : Int} (x : GX b v F C G r s t z c w e M) : GX b v F C G r' s' t' z' c' w' e' (zset M (b + 3) (gC r' s' t' z' c' w' e')) := by
  obtain ⟨x1, x2, x3, x4, x5, x6⟩ := x
  have f : zFr (b + 3) 1 M (zset M (b + 3) (gC r' s' t' z' c' w' e')) := zFr_set (by omega)
  exact ⟨XO_fr x1 f (by omega), XS_fr x2 f (by omega), XH_fr x3 f (by omega), SL_fr x4 f (by omega), zget_set_eq, x6⟩
theorem GX_CP (x : GX b v F C G r s t z c w e M) (rv : RV v) : CP (b + 46) (sh (v 4) F) (sh (v 5) F) M := by
  have r := rv.1
  exact ⟨zst b (v 4), zst b (v 5), _, _, _, _, x.1.2.2, x.2.1 (v 4) (by omega) (by omega), x.2.1 (v 5) (by omega) (by omega)⟩
theorem s_belowO {p : Nat} {F1 F2 : Int → Bool} (x : CP p F1 F2 M) : ∀ (d : Nat) (r a : Int) (K : zK), (-2147483648 ≤ r ∧ r < 2147483648 ∧ (r < 0 ∨ 7 < r) ∧ -2147483648 ≤ a ∧ a < 2147483648) → zC (d + 5) 2 [.ref p, .int (zi r), .int (zi a)] M K = K (some (.int (zi 0))) M := by
  intro d r a K h
  obtain ⟨u, o, C1, C2, G1, G2, q, q1, q2⟩ := x
  have e1 := s_isFurrowO q1.1
  have h1 := q1.1
  simp (disch := omega) only [zen_2, e_2_0, e_2_1, e_2_4, e_2_5, e_2_6, e_2_9, zgf_0_0, zPa_some, zPn_some, zRK_some, zRK_none, zCk_t, zis_ob, zget_set_eq, zget_set_ne, zAld_10, zAld_11, zAst_10, zAst_11, zAlen_10, zAlen_11, zbd_t, zbd_f, zb_t, zb_f, zset_set, s_one0, s_one1, zis_so, q, h1, e1]
theorem s_goOutward (x : GX b v F C G r s t z c w e M) (rv : RV v) (h : 0 ≤ r ∧ r ≤ 7 ∧ 0 ≤ s ∧ s ≤ 23) : ∀ (d : Nat) (K : zK), zC (d + 6) 16 [.ref (b + 3), .ref (b + 46)] M K = K none (zset M (b + 3) (gC (r + 1) (goS (sh (v 4) F) (r + 1) s) t z c w e)) := by
  intro d K
  have x1 := GX_set (r' := r + 1) (s' := s) (t' := t) (z' := z) (c' := c) (w' := w) (e' := e) x
  have e1 := s_below (GX_CP x1 rv)
  have e2 := s_belowO (GX_CP x1 rv)
  have o1 := x1.1.2.2
  have h3 := x.2.2.2.2.1
  have h4 := x1.2.2.2.2.1
  unfold gC at e1 e2 h3 h4 o1
  unfold goS gC
  by_cases q8 : r + 1 < 8
  · rw [if_pos q8]
    cases f1 : sh (v 4) F ((r + 1) * 24 + s % 24) with
    | true =>
      rw [if_pos rfl]
      simp (disch := omega) only [zen_16, e_16_0, e_16_1, e_16_2, e_16_5, e_16_6, e_16_7, e_16_10, e_16_11, e_16_12, e_16_15, e_16_16, e_16_19, e_16_22t, e_16_22f, e_16_25, e_16_26, e_16_27, e_16_28, e_16_31, e_16_32, e_16_35, e_16_36, e_16_37, e_16_40t, e_16_40f, e_16_43, e_16_44, e_16_45, e_16_48, e_16_49, e_16_50, e_16_53, e_16_56, e_16_59, e_16_60, e_16_61, e_16_64, e_16_65, e_16_68, e_16_69, e_16_70, e_16_73t, e_16_73f, e_16_76, e_16_77, e_16_78, e_16_81, e_16_82, e_16_83, e_16_86, e_16_89, zgf_1_0, zgf_1_1, zpf_1_0, zpf_1_1, zPa_some, zPn_some, zRK_some, zRK_none, zCk_t, zis_ob, zget_set_eq, zget_set_ne, zAld_10, zAld_11, zAst_10, zAst_11, zAlen_10, zAlen_11, zbd_t, zbd_f, zb_t, zb_f, zset_set, s_one0, s_one1, zis_so, h3, h4, o1, e1, f1]
    | false =>
      rw [if_neg (by decide)]
      cases f2 : sh (v 4) F ((r + 1) * 24 + (s + 1) % 24) with
      | true =>
        rw [if_pos rfl]
        simp (disch := omega) only [zen_16, e_16_0, e_16_1, e_16_2, e_16_5, e_16_6, e_16_7, e_16_10, e_16_11, e_16_12, e_16_15, e_16_16, e_16_19, e_16_22t, e_16_22f, e_16_25, e_16_26, e_16_27, e_16_28, e_16_31, e_16_32, e_16_35, e_16_36, e_16_37, e_16_40t, e_16_40f, e_16_43, e_16_44, e_16_45, e_16_48, e_16_49, e_16_50, e_16_53, e_16_56, e_16_59, e_16_60, e_16_61, e_16_64, e_16_65, e_16_68, e_16_69, e_16_70, e_16_73t, e_16_73f, e_16_76, e_16_77, e_16_78, e_16_81, e_16_82, e_16_83, e_16_86, e_16_89, zgf_1_0, zgf_1_1, zpf_1_0, zpf_1_1, zPa_some, zPn_some, zRK_some, zRK_none, zCk_t, zis_ob, zget_set_eq, zget_set_ne, zAld_10, zAld_11, zAst_10, zAst_11, zAlen_10, zAlen_11, zbd_t, zbd_f, zb_t, zb_f, zset_set, s_one0, s_one1, zis_so, h3, h4, o1, e1, f1, f2, s_around]
      | false =>
        rw [if_neg (by decide)]
        cases f3 : sh (v 4) F ((r + 1) * 24 + (s - 1) % 24) with
        | true =>
          rw [if_pos rfl]
          simp (disch := omega) only [zen_16, e_16_0, e_16_1, e_16_2, e_16_5, e_16_6, e_16_7, e_16_10, e_16_11, e_16_12, e_16_15, e_16_16, e_16_19, e_16_22t, e_16_22f, e_16_25, e_16_26, e_16_27, e_16_28, e_16_31, e_16_32, e_16_35, e_16_36, e_16_37, e_16_40t, e_16_40f, e_16_43, e_16_44, e_16_45, e_16_48, e_16_49, e_16_50, e_16_53, e_16_56, e_16_59, e_16_60, e_16_61, e_16_64, e_16_65, e_16_68, e_16_69, e_16_70, e_16_73t, e_16_73f, e_16_76, e_16_77, e_16_78, e_16_81, e_16_82, e_16_83, e_16_86, e_16_89, zgf_1_0, zgf_1_1, zpf_1_0, zpf_1_1, zPa_some, zPn_some, zRK_some, zRK_none, zCk_t, zis_ob, zget_set_eq, zget_set_ne, zAld_10, zAld_11, zAst_10, zAst_11, zAlen_10, zAlen_11, zbd_t, zbd_f, zb_t, zb_f, zset_set, s_one0, s_one1, zis_so, h3, h4, o1, e1, f1, f2, f3, s_around]
        | false =>
          rw [if_neg (by decide)]
          simp (disch := omega) only [zen_16, e_16_0, e_16_1, e_16_2, e_16_5, e_16_6, e_16_7, e_16_10, e_16_11, e_16_12, e_16_15, e_16_16, e_16_19, e_16_22t, e_16_22f, e_16_25, e_16_26, e_16_27, e_16_28, e_16_31, e_16_32, e_16_35, e_16_36, e_16_37, e_16_40t, e_16_40f, e_16_43, e_16_44, e_16_45, e_16_48, e_16_49, e_16_50, e_16_53, e_16_56, e_16_59, e_16_60, e_16_61, e_16_64, e_16_65, e_16_68, e_16_69, e_16_70, e_16_73t, e_16_73f, e_16_76, e_16_77, e_16_78, e_16_81, e_16_82, e_16_83, e_16_86, e_16_89, zgf_1_0, zgf_1_1, zpf_1_0, zpf_1_1, zPa_some, zPn_some, zRK_some, zRK_none, zCk_t, zis_ob, zget_set_eq, zget_set_ne, zAld_10, zAld_11, zAst_10, zAst_11, zAlen_10, zAlen_11, zbd_t, zbd_f, zb_t, zb_f, zset_set, s_one0, s_one1, zis_so, h3, h4, o1, e1, f1, f2, f3, s_around]
  · rw [if_neg q8]
    simp (disch := omega) only [zen_16, e_16_0, e_16_1, e_16_2, e_16_5, e_16_6, e_16_7, e_16_10, e_16_11, e_16_12, e_16_15, e_16_16, e_16_19, e_16_22t, e_16_22f, e_16_25, e_16_26, e_16_27, e_16_28, e_16_31, e_16_32, e_16_35, e_16_36, e_16_37, e_16_40t, e_16_40f, e_16_43, e_16_44, e_16_45, e_16_48, e_16_49, e_16_50, e_16_53, e_16_56, e_16_59, e_16_60, e_16_61, e_16_64, e_16_65, e_16_68, e_16_69, e_16_70, e_16_73t, e_16_73f, e_16_76, e_16_77, e_16_78, e_16_81, e_16_82, e_16_83, e_16_86, e_16_89, zgf_1_0, zgf_1_1, zpf_1_0, zpf_1_1, zPa_some, zPn_some, zRK_some, zRK_none, zCk_t, zis_ob, zget_set_eq, zget_set_ne, zAld_10, zAld_11, zAst_10, zAst_11, zAlen_10, zAlen_11, zbd_t, zbd_f, zb_t, zb_f, zset_set, s_one0, s_one1, zis_so, h3, h4, o1, e2]
theorem s_beat (x : GX b v F C G r s t z c w e M) (rv : RV v) (h : 0 ≤ r ∧ r ≤ 7 ∧ 0 ≤ s ∧ s ≤ 23 ∧ 0 ≤ t ∧ t ≤ 23 ∧ 1 ≤ z ∧ z ≤ 100) : ∀ (d : Nat) (K : zK), zC (d + 8) 14 [.ref (b + 3), .ref (b + 46), .ref (b + 2)] M K = K none (zset M (b + 3) (gC (btS (sh (v 4) F) (sh (v 5) F) (wgp v) r s t z c w).1 (btS (sh (v 4) F) (sh (v 5) F) (wgp v) r s t z c w).2.1 t (btS (sh (v 4) F) (sh (v 5) F) (wgp v) r s t z c w).2.2.1 (btS (sh (v 4) F) (sh (v 5) F) (wgp v) r s t z c w).2.2.2.1 (btS (sh (v 4) F) (sh (v 5) F) (wgp v) r s t z c w).2.2.2.2 e)) := by
  intro d K
  have e1 := s_below (GX_CP x rv)
  have e2 := s_above (GX_CP x rv)
  have e3 : ∀ (d : Nat) (r a t : Int) (K : zK), (0 ≤ r ∧ r ≤ 7 ∧ 0 ≤ a ∧ a ≤ 23 ∧ 0 ≤ t ∧ t ≤ 23) → zC (d + 4) 25 [.ref (b + 2), .int (zi r), .int (zi a), .int (zi t)] M K = K (some (.int (zi (wgp v r a t)))) M := s_gapOver x.2.2.2.1 x.2.2.1 (RV_w rv)
  have rg := wgp_rng (RV_w rv) (r := r) (a := s) (t := t) (by omega)
  have o1 := x.1.2.2
  have h2 := x.2.2.1
  have h3 := x.2.2.2.2.1
  unfold XH at h2
  have x5 := GX_set (r' := r) (s' := s) (t' := t) (z' := min z (max ((3 * z + 3) / 4) (wgp v r s t))) (c' := c + 1) (w' := w) (e' := e) x
  have e16 := s_goOutward x5 rv (by omega)
  rw [zset_set] at e16
  have d1 := zdiv_f (x := 3 * z + 3) (y := 4) (by omega)
  have d2 := zmod_f (x := t) (y := 2) (by omega)
  unfold gC at h3 e16
  unfold btS
  cases f1 : sh (v 4) F (r * 24 + s % 24) with
  | true =>
    rw [if_pos rfl]
    cases f2 : sh (v 5) F (r * 24 + (t - s) % 24) with
    | true =>
      rw [if_pos rfl]
      simp (disch := omega) only [zen_14, e_14_0, e_14_1, e_14_2, e_14_5, e_14_6, e_14_9, e_14_12, e_14_13, e_14_14, e_14_15, e_14_18, e_14_19, e_14_22, e_14_23, e_14_26, e_14_29, e_14_31, e_14_32t, e_14_32f, e_14_35, e_14_37t, e_14_37f, e_14_40, e_14_41, e_14_42, e_14_43, e_14_46, e_14_47, e_14_50, e_14_51, e_14_54, e_14_57, e_14_60, e_14_61, e_14_62, e_14_65, e_14_68, e_14_70t, e_14_70f, e_14_73, e_14_74, e_14_75, e_14_78, e_14_79, e_14_80, e_14_83, e_14_86, e_14_89, e_14_90t, e_14_90f, e_14_93, e_14_94, e_14_95, e_14_96, e_14_99, e_14_100, e_14_103, e_14_104, e_14_107, e_14_110, e_14_113, zgf_1_0, zgf_1_1, zgf_1_2, zpf_1_1, zen_15, e_15_0, e_15_1, e_15_2, e_15_5, e_15_6, e_15_7, e_15_8, e_15_9, e_15_10, e_15_11, e_15_12, e_15_13, e_15_16, e_15_17, e_15_18, e_15_21, e_15_24, e_15_27, e_15_28, e_15_29, e_15_32, e_15_33, e_15_34, e_15_37, zgf_1_3, zgf_1_4, zpf_1_3, zpf_1_4, zPa_some, zPn_some, zRK_some, zRK_none, zCk_t, zis_ob, zget_set_eq, zget_set_ne, zAld_10, zAld_11, zAst_10, zAst_11, zAlen_10, zAlen_11, zbd_t, zbd_f, zb_t, zb_f, zset_set, s_one0, s_one1, zis_so, h2, h3, o1, e1, e2, e3, e16, f1, f2, d1, s_max, s_min]
      rfl
    | false =>
      rw [if_neg (by decide)]
      dsimp only
      unfold gC
      rw [zset_same h3]
      simp (disch := omega) only [zen_14, e_14_0, e_14_1, e_14_2, e_14_5, e_14_6, e_14_9, e_14_12, e_14_13, e_14_14, e_14_15, e_14_18, e_14_19, e_14_22, e_14_23, e_14_26, e_14_29, e_14_31, e_14_32t, e_14_32f, e_14_35, e_14_37t, e_14_37f, e_14_40, e_14_41, e_14_42, e_14_43, e_14_46, e_14_47, e_14_50, e_14_51, e_14_54, e_14_57, e_14_60, e_14_61, e_14_62, e_14_65, e_14_68, e_14_70t, e_14_70f, e_14_73, e_14_74, e_14_75, e_14_78, e_14_79, e_14_80, e_14_83, e_14_86, e_14_89, e_14_90t, e_14_90f, e_14_93, e_14_94, e_14_95, e_14_96, e_14_99, e_14_100, e_14_103, e_14_104, e_14_107, e_14_110, e_14_113, zgf_1_0, zgf_1_1, zgf_1_2, zpf_1_1, zPa_some, zPn_some, zRK_some, zRK_none, zCk_t, zis_ob, zget_set_eq, zget_set_ne, zAld_10, zAld_11, zAst_10, zAst_11, zAlen_10, zAlen_11, zbd_t, zbd_f, zb_t, zb_f, zset_set, s_one0, s_one1, zis_so, h3, o1, e1, e2, f1, f2]
  | false =>
    rw [if_neg (by decide)]
    cases f2 : sh (v 5) F (r * 24 + (t - s) % 24) with
    | true =>
      rw [if_pos rfl]
      simp (disch := omega) only [zen_14, e_14_0, e_14_1, e_14_2, e_14_5, e_14_6, e_14_9, e_14_12, e_14_13, e_14_14, e_14_15, e_14_18, e_14_19, e_14_22, e_14_23, e_14_26, e_14_29, e_14_31, e_14_32t, e_14_32f, e_14_35, e_14_37t, e_14_37f, e_14_40, e_14_41, e_14_42, e_14_43, e_14_46, e_14_47, e_14_50, e_14_51, e_14_54, e_14_57, e_14_60, e_14_61, e_14_62, e_14_65, e_14_68, e_14_70t, e_14_70f, e_14_73, e_14_74, e_14_75, e_14_78, e_14_79, e_14_80, e_14_83, e_14_86, e_14_89, e_14_90t, e_14_90f, e_14_93, e_14_94, e_14_95, e_14_96, e_14_99, e_14_100, e_14_103, e_14_104, e_14_107, e_14_110, e_14_113, zgf_1_0, zgf_1_1, zgf_1_2, zpf_1_1, zPa_some, zPn_some, zRK_some, zRK_none, zCk_t, zis_ob, zget_set_eq, zget_set_ne, zAld_10, zAld_11, zAst_10, zAst_11, zAlen_10, zAlen_11, zbd_t, zbd_f, zb_t, zb_f, zset_set, s_one0, s_one1, zis_so, h3, o1, e1, e2, f1, f2, s_around]
      rfl
    | false =>
      rw [if_neg (by decide)]
      dsimp only
      unfold gC
      by_cases q1 : wgp v r s t < z
      · rw [if_pos q1, if_pos q1]
        by_cases q2 : t % 2 = 0
        · rw [if_pos q2]
          simp (disch := omega) only [zen_14, e_14_0, e_14_1, e_14_2, e_14_5, e_14_6, e_14_9, e_14_12, e_14_13, e_14_14, e_14_15, e_14_18, e_14_19, e_14_22, e_14_23, e_14_26, e_14_29, e_14_31, e_14_32t, e_14_32f, e_14_35, e_14_37t, e_14_37f, e_14_40, e_14_41, e_14_42, e_14_43, e_14_46, e_14_47, e_14_50, e_14_51, e_14_54, e_14_57, e_14_60, e_14_61, e_14_62, e_14_65, e_14_68, e_14_70t, e_14_70f, e_14_73, e_14_74, e_14_75, e_14_78, e_14_79, e_14_80, e_14_83, e_14_86, e_14_89, e_14_90t, e_14_90f, e_14_93, e_14_94, e_14_95, e_14_96, e_14_99, e_14_100, e_14_103, e_14_104, e_14_107, e_14_110, e_14_113, zgf_1_0, zgf_1_1, zgf_1_2, zpf_1_1, zen_17, e_17_0, e_17_1, e_17_4, e_17_5t, e_17_5f, e_17_8, e_17_9, e_17_10, e_17_13, e_17_14, e_17_15, e_17_18, e_17_19, e_17_20, e_17_23, e_17_24, e_17_25, e_17_28, e_17_29, e_17_32, e_17_33, e_17_34t, e_17_34f, e_17_37, e_17_38, e_17_39, e_17_42, e_17_43, e_17_44, e_17_47, e_17_50, zgf_1_3, zgf_1_5, zpf_1_3, zpf_1_5, zPa_some, zPn_some, zRK_some, zRK_none, zCk_t, zis_ob, zget_set_eq, zget_set_ne, zAld_10, zAld_11, zAst_10, zAst_11, zAlen_10, zAlen_11, zbd_t, zbd_f, zb_t, zb_f, zset_set, s_one0, s_one1, zis_so, h2, h3, o1, e1, e2, e3, f1, f2, d2, s_around]
        · rw [if_neg q2]
          simp (disch := omega) only [zen_14, e_14_0, e_14_1, e_14_2, e_14_5, e_14_6, e_14_9, e_14_12, e_14_13, e_14_14, e_14_15, e_14_18, e_14_19, e_14_22, e_14_23, e_14_26, e_14_29, e_14_31, e_14_32t, e_14_32f, e_14_35, e_14_37t, e_14_37f, e_14_40, e_14_41, e_14_42, e_14_43, e_14_46, e_14_47, e_14_50, e_14_51, e_14_54, e_14_57, e_14_60, e_14_61, e_14_62, e_14_65, e_14_68, e_14_70t, e_14_70f, e_14_73, e_14_74, e_14_75, e_14_78, e_14_79, e_14_80, e_14_83, e_14_86, e_14_89, e_14_90t, e_14_90f, e_14_93, e_14_94, e_14_95, e_14_96, e_14_99, e_14_100, e_14_103, e_14_104, e_14_107, e_14_110, e_14_113, zgf_1_0, zgf_1_1, zgf_1_2, zpf_1_1, zen_17, e_17_0, e_17_1, e_17_4, e_17_5t, e_17_5f, e_17_8, e_17_9, e_17_10, e_17_13, e_17_14, e_17_15, e_17_18, e_17_19, e_17_20, e_17_23, e_17_24, e_17_25, e_17_28, e_17_29, e_17_32, e_17_33, e_17_34t, e_17_34f, e_17_37, e_17_38, e_17_39, e_17_42, e_17_43, e_17_44, e_17_47, e_17_50, zgf_1_3, zgf_1_5, zpf_1_3, zpf_1_5, zPa_some, zPn_some, zRK_some, zRK_none, zCk_t, zis_ob, zget_set_eq, zget_set_ne, zAld_10, zAld_11, zAst_10, zAst_11, zAlen_10, zAlen_11, zbd_t, zbd_f, zb_t, zb_f, zset_set, s_one0, s_one1, zis_so, h2, h3, o1, e1, e2, e3, f1, f2, d2, s_around]
      · rw [if_neg q1, if_neg q1]
        by_cases q2 : t % 2 = 0
        · rw [if_pos q2]
          simp (disch := omega) only [zen_14, e_14_0, e_14_1, e_14_2, e_14_5, e_14_6, e_14_9, e_14_12, e_14_13, e_14_14, e_14_15, e_14_18, e_14_19, e_14_22, e_14_23, e_14_26, e_14_29, e_14_31, e_14_32t, e_14_32f, e_14_35, e_14_37t, e_14_37f, e_14_40, e_14_41, e_14_42, e_14_43, e_14_46, e_14_47, e_14_50, e_14_51, e_14_54, e_14_57, e_14_60, e_14_61, e_14_62, e_14_65, e_14_68, e_14_70t, e_14_70f, e_14_73, e_14_74, e_14_75, e_14_78, e_14_79, e_14_80, e_14_83, e_14_86, e_14_89, e_14_90t, e_14_90f, e_14_93, e_14_94, e_14_95, e_14_96, e_14_99, e_14_100, e_14_103, e_14_104, e_14_107, e_14_110, e_14_113, zgf_1_0, zgf_1_1, zgf_1_2, zpf_1_1, zen_17, e_17_0, e_17_1, e_17_4, e_17_5t, e_17_5f, e_17_8, e_17_9, e_17_10, e_17_13, e_17_14, e_17_15, e_17_18, e_17_19, e_17_20, e_17_23, e_17_24, e_17_25, e_17_28, e_17_29, e_17_32, e_17_33, e_17_34t, e_17_34f, e_17_37, e_17_38, e_17_39, e_17_42, e_17_43, e_17_44, e_17_47, e_17_50, zgf_1_3, zgf_1_5, zpf_1_3, zpf_1_5, zPa_some, zPn_some, zRK_some, zRK_none, zCk_t, zis_ob, zget_set_eq, zget_set_ne, zAld_10, zAld_11, zAst_10, zAst_11, zAlen_10, zAlen_11, zbd_t, zbd_f, zb_t, zb_f, zset_set, s_one0, s_one1, zis_so, h2, h3, o1, e1, e2, e3, f1, f2, d2, s_around]
        · rw [if_neg q2, zset_same h3]
          simp (disch := omega) only [zen_14, e_14_0, e_14_1, e_14_2, e_14_5, e_14_6, e_14_9, e_14_12, e_14_13, e_14_14, e_14_15, e_14_18, e_14_19, e_14_22, e_14_23, e_14_26, e_14_29, e_14_31, e_14_32t, e_14_32f, e_14_35, e_14_37t, e_14_37f, e_14_40, e_14_41, e_14_42, e_14_43, e_14_46, e_14_47, e_14_50, e_14_51, e_14_54, e_14_57, e_14_60, e_14_61, e_14_62, e_14_65, e_14_68, e_14_70t, e_14_70f, e_14_73, e_14_74, e_14_75, e_14_78, e_14_79, e_14_80, e_14_83, e_14_86, e_14_89, e_14_90t, e_14_90f, e_14_93, e_14_94, e_14_95, e_14_96, e_14_99, e_14_100, e_14_103, e_14_104, e_14_107, e_14_110, e_14_113, zgf_1_0, zgf_1_1, zgf_1_2, zpf_1_1, zen_17, e_17_0, e_17_1, e_17_4, e_17_5t, e_17_5f, e_17_8, e_17_9, e_17_10, e_17_13, e_17_14, e_17_15, e_17_18, e_17_19, e_17_20, e_17_23, e_17_24, e_17_25, e_17_28, e_17_29, e_17_32, e_17_33, e_17_34t, e_17_34f, e_17_37, e_17_38, e_17_39, e_17_42, e_17_43, e_17_44, e_17_47, e_17_50, zgf_1_3, zgf_1_5, zpf_1_3, zpf_1_5, zPa_some, zPn_some, zRK_some, zRK_none, zCk_t, zis_ob, zget_set_eq, zget_set_ne, zAld_10, zAld_11, zAst_10, zAst_11, zAlen_10, zAlen_11, zbd_t, zbd_f, zb_t, zb_f, zset_set, s_one0, s_one1, zis_so, h2, h3, o1, e1, e2, e3, f1, f2, d2, s_around]
def tG (F1 F2 : Int → Bool) (g : Int → Int → Int → Int) (n : Nat) (r s t z c w e t' : Int) : zE := gC (tvS F1 F2 g n r s t z c w e).1 (tvS F1 F2 g n r s t z c w e).2.1 t' (tvS F1 F2 g n r s t z c w e).2.2.1 (tvS F1 F2 g n r s t z c w e).2.2.2.1 (tvS F1 F2 g n r s t z c w e).2.2.2.2.1 (tvS F1 F2 g n r s t z c w e).2.2.2.2.2
theorem l_13 (rv : RV v) : ∀ (n : Nat) (i r s t z c w e : Int) (M : zM), GX b v F C G r s t z c w e M → i + n = 300 → 0 ≤ i → (0 ≤ r ∧ r ≤ 8 ∧ 0 ≤ s ∧ s ≤ 23 ∧ 0 ≤ t ∧ t ≤ 23 ∧ 1 ≤ z ∧ z ≤ 100) → ∃ t', ∀ (d : Nat) (K : zK), Ev (d + 8) 13 6 [some (.ref (b + 3)), some (.ref (b + 46)), some (.ref (b + 2)), some (.int (zi i))] [.int (zi 300), .int (zi i)] M K = K none (zset M (b + 3) (tG (sh (v 4) F) (sh (v 5) F) (wgp v) n r s t z c w e t')) := by
  intro n
  induction n with
  | zero =>
    intro i r s t z c w e M x hi h0 h
    refine ⟨t, fun d K => ?_⟩
    rw [show tG (sh (v 4) F) (sh (v 5) F) (wgp v) 0 r s t z c w e t = gC r s t z c w e from rfl, zset_same x.2.2.2.2.1]
    simp (disch := omega) only [zen_13, e_13_0, e_13_1, e_13_2, e_13_3, e_13_6t, e_13_6f, e_13_9, e_13_10, e_13_13, e_13_15t, e_13_15f, e_13_18, e_13_19, e_13_20, e_13_21, e_13_24, e_13_25, e_13_26, e_13_29, e_13_30, e_13_31, e_13_34, e_13_37, e_13_38, e_13_39, e_13_42, e_13_43, e_13_44, e_13_47, e_13_50, e_13_53, zgf_1_0, zgf_1_2, zgf_1_6, zpf_1_2, zpf_1_6, zPa_some, zPn_some, zRK_some, zRK_none, zCk_t, zis_ob, zget_set_eq, zget_set_ne, zAld_10, zAld_11, zAst_10, zAst_11, zAlen_10, zAlen_11, zbd_t, zbd_f, zb_t, zb_f, zset_set, s_one0, s_one1, zis_so]
  | succ n ih =>
    intro i r s t z c w e M x hi h0 h
    have h3 := x.2.2.2.2.1
    by_cases q : r < 8
    · have rg := wgp_rng (RV_w rv) (r := r) (a := s) (t := t) (by omega)
      have rb := btS_rng (F1 := sh (v 4) F) (F2 := sh (v 5) F) (g := wgp v) (r := r) (s := s) (t := t) (z := z) (c := c) (w := w) (by omega) rg.1
      have y := GX_set (r' := (btS (sh (v 4) F) (sh (v 5) F) (wgp v) r s t z c w).1) (s' := (btS (sh (v 4) F) (sh (v 5) F) (wgp v) r s t z c w).2.1) (t' := (t + 1) % 24) (z' := (btS (sh (v 4) F) (sh (v 5) F) (wgp v) r s t z c w).2.2.1) (c' := (btS (sh (v 4) F) (sh (v 5) F) (wgp v) r s t z c w).2.2.2.1) (w' := (btS (sh (v 4) F) (sh (v 5) F) (wgp v) r s t z c w).2.2.2.2) (e' := e + 1) x
      obtain ⟨t', ht⟩ := ih (i + 1) _ _ _ _ _ _ _ _ y (by omega) (by omega) (by omega)
      refine ⟨t', fun d K => ?_⟩
      have e1 := s_beat x rv (by omega)
      have o1 := x.1.2.2
      have h2 := x.2.2.1
      unfold XH at h2
      have ht2 := ht d K
      rw [zset_set] at ht2
      rw [show tG (sh (v 4) F) (sh (v 5) F) (wgp v) (n + 1) r s t z c w e t' = tG (sh (v 4) F) (sh (v 5) F) (wgp v) n (btS (sh (v 4) F) (sh (v 5) F) (wgp v) r s t z c w).1 (btS (sh (v 4) F) (sh (v 5) F) (wgp v) r s t z c w).2.1 ((t + 1) % 24) (btS (sh (v 4) F) (sh (v 5) F) (wgp v) r s t z c w).2.2.1 (btS (sh (v 4) F) (sh (v 5) F) (wgp v) r s t z c w).2.2.2.1 (btS (sh (v 4) F) (sh (v 5) F) (wgp v) r s t z c w).2.2.2.2 (e + 1) t' by unfold tG; rw [tvS_t q]]
      rw [← ht2]
      unfold gC at h3 e1
      unfold gC
      simp (disch := omega) only [zen_13, e_13_0, e_13_1, e_13_2, e_13_3, e_13_6t, e_13_6f, e_13_9, e_13_10, e_13_13, e_13_15t, e_13_15f, e_13_18, e_13_19, e_13_20, e_13_21, e_13_24, e_13_25, e_13_26, e_13_29, e_13_30, e_13_31, e_13_34, e_13_37, e_13_38, e_13_39, e_13_42, e_13_43, e_13_44, e_13_47, e_13_50, e_13_53, zgf_1_0, zgf_1_2, zgf_1_6, zpf_1_2, zpf_1_6, zPa_some, zPn_some, zRK_some, zRK_none, zCk_t, zis_ob, zget_set_eq, zget_set_ne, zAld_10, zAld_11, zAst_10, zAst_11, zAlen_10, zAlen_11, zbd_t, zbd_f, zb_t, zb_f, zset_set, s_one0, s_one1, zis_so, h2, h3, o1, e1, s_around]
    · refine ⟨t, fun d K => ?_⟩
      rw [show tG (sh (v 4) F) (sh (v 5) F) (wgp v) (n + 1) r s t z c w e t = gC r s t z c w e by unfold tG; rw [tvS_f q], zset_same h3]
      unfold gC at h3
      simp (disch := omega) only [zen_13, e_13_0, e_13_1, e_13_2, e_13_3, e_13_6t, e_13_6f, e_13_9, e_13_10, e_13_13, e_13_15t, e_13_15f, e_13_18, e_13_19, e_13_20, e_13_21, e_13_24, e_13_25, e_13_26, e_13_29, e_13_30, e_13_31, e_13_34, e_13_37, e_13_38, e_13_39, e_13_42, e_13_43, e_13_44, e_13_47, e_13_50, e_13_53, zgf_1_0, zgf_1_2, zgf_1_6, zpf_1_2, zpf_1_6, zPa_some, zPn_some, zRK_some, zRK_none, zCk_t, zis_ob, zget_set_eq, zget_set_ne, zAld_10, zAld_11, zAst_10, zAst_11, zAlen_10, zAlen_11, zbd_t, zbd_f, zb_t, zb_f, zset_set, s_one0, s_one1, zis_so, h3]
def tv0 (F1 F2 : Int → Bool) (g : Int → Int → Int → Int) (a t z : Int) : Int × Int × Int × Int × Int × Int := tvS F1 F2 g 300 0 a t z 0 0 0
theorem s_travel (x : GX b v F C G r s t z c w e M) (rv : RV v) (a t1 z1 : Int) (h : 0 ≤ a ∧ a ≤ 23 ∧ 0 ≤ t1 ∧ t1 ≤ 23 ∧ 1 ≤ z1 ∧ z1 ≤ 100) : ∃ t', (∀ (d : Nat) (K : zK), zC (d + 1) 12 [.ref (b + 3), .int (zi a), .int (zi t1), .int (zi z1)] M K = K none (zset M (b + 3) (gC 0 a t1 z1 0 0 0))) ∧ (∀ (d : Nat) (K : zK), zC (d + 9) 13 [.ref (b + 3), .ref (b + 46), .ref (b + 2)] (zset M (b + 3) (gC 0 a t1 z1 0 0 0)) K = K none (zset M (b + 3) (tG (sh (v 4) F) (sh (v 5) F) (wgp v) 300 0 a t1 z1 0 0 0 t'))) := by
  have y := GX_set (r' := 0) (s' := a) (t' := t1) (z' := z1) (c' := 0) (w' := 0) (e' := 0) x
  obtain ⟨t', ht⟩ := l_13 rv 300 0 0 a t1 z1 0 0 0 _ y (by omega) (by omega) (by omega)
  refine ⟨t', fun d K => ?_, fun d K => ?_⟩
  · have h3 := x.2.2.2.2.1
    unfold gC at h3
    unfold gC
    simp (disch := omega) only [zen_12, e_12_0, e_12_1, e_12_2, e_12_5, e_12_6, e_12_7, e_12_10, e_12_11, e_12_12, e_12_15, e_12_16, e_12_17, e_12_20, e_12_21, e_12_22, e_12_25, e_12_26, e_12_27, e_12_30, e_12_31, e_12_32, e_12_35, zpf_1_0, zpf_1_1, zpf_1_2, zpf_1_3, zpf_1_4, zpf_1_5, zpf_1_6, zPa_some, zPn_some, zRK_some, zRK_none, zCk_t, zis_ob, zget_set_eq, zget_set_ne, zAld_10, zAld_11, zAst_10, zAst_11, zAlen_10, zAlen_11, zbd_t, zbd_f, zb_t, zb_f, zset_set, s_one0, s_one1, zis_so, h3]
  · have ht2 := ht d K
    rw [zset_set] at ht2
    simp (disch := omega) only [zen_13, e_13_0, e_13_1, e_13_2, e_13_3, e_13_9, e_13_10, e_13_13, e_13_15t, e_13_15f, e_13_18, e_13_19, e_13_20, e_13_21, e_13_24, e_13_25, e_13_26, e_13_29, e_13_30, e_13_31, e_13_34, e_13_37, e_13_38, e_13_39, e_13_42, e_13_43, e_13_44, e_13_47, e_13_50, e_13_53, zgf_1_0, zgf_1_2, zgf_1_6, zpf_1_2, zpf_1_6, zPa_some, zPn_some, zRK_some, zRK_none, zCk_t, zis_ob, zget_set_eq, zget_set_ne, zAld_10, zAld_11, zAst_10, zAst_11, zAlen_10, zAlen_11, zbd_t, zbd_f, zb_t, zb_f, zset_set, s_one0, s_one1, zis_so]
    exact ht2
end GRX
