/-! who dresses which mill: the class's numbers -/
def rq (H : Int) : Nat → Int → Int
  | 0, s => s
  | n + 1, s => rq H n s / H
def dgS (H s m : Int) : Int := rq H (5 - m).toNat s % H
theorem rq_rng {H : Int} (hH : 1 ≤ H) : ∀ (n : Nat) (s : Int), 0 ≤ s → 0 ≤ rq H n s ∧ rq H n s ≤ s := by
  intro n
  induction n with
  | zero => intro s h; exact ⟨h, Int.le_refl _⟩
  | succ n ih =>
    intro s h
    have q := ih s h
    refine ⟨Int.ediv_nonneg q.1 (by omega), ?_⟩
    exact Int.le_trans (Int.ediv_le_self _ q.1) q.2
theorem dgS_rng {H s m : Int} (hH : 1 ≤ H) : 0 ≤ dgS H s m ∧ dgS H s m < H := ⟨Int.emod_nonneg _ (by omega), Int.emod_lt_of_pos _ (by omega)⟩
/-- the mills of one owner -/
def ofS (W : Int) (u : Int → Int) (o : Int) : Int := stP (fun m => bt W m && decide (u m = o))
def DY (so : Int → Int) (W : Int) (u : Int → Int) : Int := max (max (so (ofS W u 0)) (so (ofS W u 1))) (so (ofS W u 2))
theorem s_digitOf {d : Nat} {x H : Int} {M : zM} {K : zK} (h : 0 ≤ x ∧ x < 2147483648 ∧ 1 ≤ H ∧ H ≤ 3) : zC (d + 1) 59 [.int (zi x), .int (zi H)] M K = K (some (.int (zi (x % H)))) M := by
  have e := zmod_f (x := x) (y := H) (by omega)
  simp (disch := omega) only [zen_59, e_59_0, e_59_1t, e_59_1f, e_59_4, e_59_5, e_59_6, e_59_7, e_59_10, e_59_11, zPa_some, zPn_some, zRK_some, zRK_none, zCk_t, zis_ob, zget_set_eq, zget_set_ne, zAld_10, zAld_11, zAst_10, zAst_11, zAlen_10, zAlen_11, zbd_t, zbd_f, zb_t, zb_f, zset_set, s_one0, s_one1, zis_so, e]
theorem s_withoutDigit {d : Nat} {x H : Int} {M : zM} {K : zK} (h : 0 ≤ x ∧ x < 2147483648 ∧ 1 ≤ H ∧ H ≤ 3) : zC (d + 1) 60 [.int (zi x), .int (zi H)] M K = K (some (.int (zi (x / H)))) M := by
  have e := zdiv_f (x := x) (y := H) (by omega)
  simp (disch := omega) only [zen_60, e_60_0, e_60_1t, e_60_1f, e_60_4, e_60_5, e_60_6, e_60_7, e_60_10, e_60_11, zPa_some, zPn_some, zRK_some, zRK_none, zCk_t, zis_ob, zget_set_eq, zget_set_ne, zAld_10, zAld_11, zAst_10, zAst_11, zAlen_10, zAlen_11, zbd_t, zbd_f, zb_t, zb_f, zset_set, s_one0, s_one1, zis_so, e]
def InS (W H s i o f : Int) : Prop := (0 ≤ f ∧ f < 64) ∧ ∀ j, 0 ≤ j → j < 6 → (bt f j = true ↔ i < j ∧ bt W j = true ∧ dgS H s j = o)
def biS (W H s i o : Int) : Int := if (bt W i && decide (dgS H s i = o)) = true then pw i else 0
theorem InS_step {W H s i o f : Int} (h : InS W H s i o f) (hi : 0 ≤ i ∧ i < 6) : InS W H s (i - 1) o (zor f (biS W H s i o)) := by
  obtain ⟨h1, h2⟩ := h
  have p := pw_rng (m := i) (by omega)
  have r : 0 ≤ biS W H s i o ∧ biS W H s i o < 64 := by unfold biS; split <;> omega
  refine ⟨zor_rng ⟨h1.1, h1.2, r.1, r.2⟩, fun j a1 a2 => ?_⟩
  rw [bt_or ⟨h1.1, h1.2, r.1, r.2⟩, Bool.or_eq_true_iff, h2 j a1 a2]
  unfold biS
  constructor
  · rintro (⟨q1, q2, q3⟩ | q)
    · exact ⟨by omega, q2, q3⟩
    · by_cases c : (bt W i && decide (dgS H s i = o)) = true
      · rw [if_pos c, bt_pw (by omega)] at q
        have := of_decide_eq_true q
        subst this
        rw [Bool.and_eq_true_iff] at c
        exact ⟨by omega, c.1, of_decide_eq_true c.2⟩
      · rw [if_neg c, bt_0] at q
        cases q
  · rintro ⟨q1, q2, q3⟩
    by_cases c : j = i
    · subst c
      right
      rw [if_pos (by rw [q2, decide_eq_true q3]; rfl), bt_pw (by omega)]
      exact decide_eq_true rfl
    · exact Or.inl ⟨by omega, q2, q3⟩
theorem InS_end {W H s o f : Int} (h : InS W H s (-1) o f) : f = ofS W (dgS H s) o := by
  have r := stP_rng (fun m => bt W m && decide (dgS H s m = o))
  refine bt_ext ⟨h.1.1, h.1.2, r.1, r.2⟩ (fun j a1 a2 => ?_)
  unfold ofS
  rw [bt_stP ⟨a1, a2⟩, Bool.eq_iff_iff, h.2 j a1 a2, Bool.and_eq_true_iff, decide_eq_true_iff]
  exact ⟨fun q => q.2, fun q => ⟨by omega, q⟩⟩
section SHX
variable {b : Nat} {v : Nat → Int} {R : Nat → Int → Int} {D : Int → Bool} {M : zM} {W H : Int} {e so ow st : Int → Int} {lt : Int}
theorem l_58 (x : PL b v R D e so ow st lt M) (hso : ∀ S, 0 ≤ S → S < 64 → -1 ≤ so S ∧ so S ≤ 1000) (hW : 0 ≤ W ∧ W < 64) (hH : 1 ≤ H ∧ H ≤ 3) (s : Int) (hs : 0 ≤ s ∧ s < 1000) : ∀ (n : Nat) (i f0 f1 f2 : Int) (u9 u10 : Option Value), i + 1 = n → -1 ≤ i ∧ i < 6 → InS W H s i 0 f0 → InS W H s i 1 f1 → InS W H s i 2 f2 → ∀ (d : Nat) (K : zK), Ev (d + 2) 58 17 [some (.ref (b + 17)), some (.int (zi W)), some (.int (zi s)), some (.int (zi H)), some (.int (zi f0)), some (.int (zi f1)), some (.int (zi f2)), some (.int (zi (rq H (5 - i).toNat s))), some (.int (zi i)), u9, u10] [.int (zi i)] M K = K (some (.int (zi (DY so W (dgS H s))))) M := by
  intro n
  induction n with
  | zero =>
    intro i f0 f1 f2 u9 u10 hn hi q0 q1 q2 d K
    obtain rfl : i = -1 := by omega
    have e0 := InS_end q0
    have e1 := InS_end q1
    have e2 := InS_end q2
    obtain ⟨x0, x1, x2, x3, x4, x5⟩ := x
    have ei := s_itemOf x3 (by omega)
    have r0 := hso f0 q0.1.1 q0.1.2
    have r1 := hso f1 q1.1.1 q1.1.2
    have r2 := hso f2 q2.1.1 q2.1.2
    have g0 := q0.1
    have g1 := q1.1
    have g2 := q2.1
    unfold DY
    rw [← e0, ← e1, ← e2]
    simp (disch := omega) only [zen_58, e_58_0, e_58_1, e_58_3, e_58_4, e_58_6, e_58_7, e_58_9, e_58_10, e_58_12, e_58_13, e_58_15, e_58_17t, e_58_17f, e_58_20, e_58_21, e_58_22, e_58_24, e_58_25, e_58_26, e_58_28, e_58_30, e_58_31, e_58_34, e_58_36, e_58_38, e_58_40t, e_58_40f, e_58_43, e_58_45, e_58_48, e_58_49, e_58_50, e_58_52, e_58_54, e_58_56, e_58_57t, e_58_57f, e_58_60, e_58_62, e_58_65, e_58_66, e_58_67, e_58_69, e_58_71, e_58_73, e_58_74t, e_58_74f, e_58_77, e_58_79, e_58_82, e_58_83, e_58_84, e_58_86, e_58_88, e_58_89, e_58_92, e_58_94, e_58_97, e_58_100, e_58_101, e_58_104, e_58_106, e_58_109, e_58_110, e_58_113, e_58_115, e_58_118, e_58_121, e_58_123, e_58_125, e_58_126, e_58_129, e_58_131, e_58_134, e_58_137, zgf_5_1, zPa_some, zPn_some, zRK_some, zRK_none, zCk_t, zis_ob, zget_set_eq, zget_set_ne, zAld_10, zAld_11, zAst_10, zAst_11, zAlen_10, zAlen_11, zbd_t, zbd_f, zb_t, zb_f, zset_set, s_one0, s_one1, zis_so, x1, ei, s_max]
  | succ n ih =>
    intro i f0 f1 f2 u9 u10 hn hi q0 q1 q2 d K
    have rr := rq_rng (H := H) (by omega) (5 - i).toNat s (by omega)
    have dr := dgS_rng (H := H) (s := s) (m := i) (by omega)
    have z1 := zshl_pw (m := i) (by omega)
    have z2 := zand_pw (S := W) (m := i) (by omega)
    have hd : rq H (5 - i).toNat s % H = dgS H s i := rfl
    have hr : rq H (5 - i).toNat s / H = rq H (5 - (i - 1)).toNat s := by
      rw [show (5 - (i - 1)).toNat = (5 - i).toNat + 1 by omega]
      rfl
    have step := ih (i - 1) _ _ _ (some (.int (zi (if bt W i = true then pw i else 0)))) (some (.int (zi (dgS H s i)))) (by omega) (by omega) (InS_step q0 (by omega)) (InS_step q1 (by omega)) (InS_step q2 (by omega)) d K
    rw [← step]
    unfold biS
    by_cases c0 : dgS H s i = 0
    · rw [c0] at hd ⊢
      rw [show decide ((0 : Int) = 0) = true from rfl, show decide ((0 : Int) = 1) = false from rfl, show decide ((0 : Int) = 2) = false from rfl, Bool.and_true, Bool.and_false, if_neg (show ¬ (false = true) by decide)]
      simp (disch := omega) only [zen_58, e_58_0, e_58_1, e_58_3, e_58_4, e_58_6, e_58_7, e_58_9, e_58_10, e_58_12, e_58_13, e_58_15, e_58_17f, e_58_20, e_58_21, e_58_22, e_58_24, e_58_25, e_58_26, e_58_28, e_58_30, e_58_31, e_58_34, e_58_36, e_58_38, e_58_40t, e_58_40f, e_58_43, e_58_45, e_58_48, e_58_49, e_58_50, e_58_52, e_58_54, e_58_56, e_58_57t, e_58_57f, e_58_60, e_58_62, e_58_65, e_58_66, e_58_67, e_58_69, e_58_71, e_58_73, e_58_74t, e_58_74f, e_58_77, e_58_79, e_58_82, e_58_83, e_58_84, e_58_86, e_58_88, e_58_89, e_58_92, e_58_94, e_58_97, e_58_100, e_58_101, e_58_104, e_58_106, e_58_109, e_58_110, e_58_113, e_58_115, e_58_118, e_58_121, e_58_123, e_58_125, e_58_126, e_58_129, e_58_131, e_58_134, e_58_137, zgf_5_1, zPa_some, zPn_some, zRK_some, zRK_none, zCk_t, zis_ob, zget_set_eq, zget_set_ne, zAld_10, zAld_11, zAst_10, zAst_11, zAlen_10, zAlen_11, zbd_t, zbd_f, zb_t, zb_f, zset_set, s_one0, s_one1, zis_so, z1, z2, s_digitOf, s_withoutDigit, hd, hr]
      try rw [show i + -1 = i - 1 by omega]
    · by_cases c1 : dgS H s i = 1
      · rw [c1] at hd ⊢
        rw [show decide ((1 : Int) = 0) = false from rfl, show decide ((1 : Int) = 1) = true from rfl, show decide ((1 : Int) = 2) = false from rfl, Bool.and_true, Bool.and_false, if_neg (show ¬ (false = true) by decide)]
        simp (disch := omega) only [zen_58, e_58_0, e_58_1, e_58_3, e_58_4, e_58_6, e_58_7, e_58_9, e_58_10, e_58_12, e_58_13, e_58_15, e_58_17f, e_58_20, e_58_21, e_58_22, e_58_24, e_58_25, e_58_26, e_58_28, e_58_30, e_58_31, e_58_34, e_58_36, e_58_38, e_58_40t, e_58_40f, e_58_43, e_58_45, e_58_48, e_58_49, e_58_50, e_58_52, e_58_54, e_58_56, e_58_57t, e_58_57f, e_58_60, e_58_62, e_58_65, e_58_66, e_58_67, e_58_69, e_58_71, e_58_73, e_58_74t, e_58_74f, e_58_77, e_58_79, e_58_82, e_58_83, e_58_84, e_58_86, e_58_88, e_58_89, e_58_92, e_58_94, e_58_97, e_58_100, e_58_101, e_58_104, e_58_106, e_58_109, e_58_110, e_58_113, e_58_115, e_58_118, e_58_121, e_58_123, e_58_125, e_58_126, e_58_129, e_58_131, e_58_134, e_58_137, zgf_5_1, zPa_some, zPn_some, zRK_some, zRK_none, zCk_t, zis_ob, zget_set_eq, zget_set_ne, zAld_10, zAld_11, zAst_10, zAst_11, zAlen_10, zAlen_11, zbd_t, zbd_f, zb_t, zb_f, zset_set, s_one0, s_one1, zis_so, z1, z2, s_digitOf, s_withoutDigit, hd, hr]
        try rw [show i + -1 = i - 1 by omega]
      · have c2 : dgS H s i = 2 := by omega
        rw [c2] at hd ⊢
        rw [show decide ((2 : Int) = 0) = false from rfl, show decide ((2 : Int) = 1) = false from rfl, show decide ((2 : Int) = 2) = true from rfl, Bool.and_true, Bool.and_false, if_neg (show ¬ (false = true) by decide)]
        simp (disch := omega) only [zen_58, e_58_0, e_58_1, e_58_3, e_58_4, e_58_6, e_58_7, e_58_9, e_58_10, e_58_12, e_58_13, e_58_15, e_58_17f, e_58_20, e_58_21, e_58_22, e_58_24, e_58_25, e_58_26, e_58_28, e_58_30, e_58_31, e_58_34, e_58_36, e_58_38, e_58_40t, e_58_40f, e_58_43, e_58_45, e_58_48, e_58_49, e_58_50, e_58_52, e_58_54, e_58_56, e_58_57t, e_58_57f, e_58_60, e_58_62, e_58_65, e_58_66, e_58_67, e_58_69, e_58_71, e_58_73, e_58_74t, e_58_74f, e_58_77, e_58_79, e_58_82, e_58_83, e_58_84, e_58_86, e_58_88, e_58_89, e_58_92, e_58_94, e_58_97, e_58_100, e_58_101, e_58_104, e_58_106, e_58_109, e_58_110, e_58_113, e_58_115, e_58_118, e_58_121, e_58_123, e_58_125, e_58_126, e_58_129, e_58_131, e_58_134, e_58_137, zgf_5_1, zPa_some, zPn_some, zRK_some, zRK_none, zCk_t, zis_ob, zget_set_eq, zget_set_ne, zAld_10, zAld_11, zAst_10, zAst_11, zAlen_10, zAlen_11, zbd_t, zbd_f, zb_t, zb_f, zset_set, s_one0, s_one1, zis_so, z1, z2, s_digitOf, s_withoutDigit, hd, hr]
        try rw [show i + -1 = i - 1 by omega]
theorem s_dayOfSharing (x : PL b v R D e so ow st lt M) (hso : ∀ S, 0 ≤ S → S < 64 → -1 ≤ so S ∧ so S ≤ 1000) (hW : 0 ≤ W ∧ W < 64) (hH : 1 ≤ H ∧ H ≤ 3) : ∀ (d : Nat) (s : Int) (K : zK), (0 ≤ s ∧ s < 1000) → zC (d + 3) 58 [.ref (b + 17), .int (zi W), .int (zi s), .int (zi H)] M K = K (some (.int (zi (DY so W (dgS H s))))) M := by
  intro d s K hs
  have i0 : ∀ o, InS W H s 5 o 0 := fun o => ⟨by omega, fun j a1 a2 => by
    rw [bt_0]
    exact ⟨fun q => by (cases q), fun q => by omega⟩⟩
  rw [← l_58 x hso hW hH s hs 6 5 0 0 0 none none (by omega) (by omega) (i0 0) (i0 1) (i0 2) d K]
  simp (disch := omega) only [zen_58, e_58_0, e_58_1, e_58_3, e_58_4, e_58_6, e_58_7, e_58_9, e_58_10, e_58_12, e_58_13, e_58_15, e_58_20, e_58_21, e_58_22, e_58_24, e_58_25, e_58_26, e_58_28, e_58_30, e_58_31, e_58_34, e_58_36, e_58_38, e_58_40t, e_58_40f, e_58_43, e_58_45, e_58_48, e_58_49, e_58_50, e_58_52, e_58_54, e_58_56, e_58_57t, e_58_57f, e_58_60, e_58_62, e_58_65, e_58_66, e_58_67, e_58_69, e_58_71, e_58_73, e_58_74t, e_58_74f, e_58_77, e_58_79, e_58_82, e_58_83, e_58_84, e_58_86, e_58_88, e_58_89, e_58_92, e_58_94, e_58_97, e_58_100, e_58_101, e_58_104, e_58_106, e_58_109, e_58_110, e_58_113, e_58_115, e_58_118, e_58_121, e_58_123, e_58_125, e_58_126, e_58_129, e_58_131, e_58_134, e_58_137, zgf_5_1, zPa_some, zPn_some, zRK_some, zRK_none, zCk_t, zis_ob, zget_set_eq, zget_set_ne, zAld_10, zAld_11, zAst_10, zAst_11, zAlen_10, zAlen_11, zbd_t, zbd_f, zb_t, zb_f, zset_set, s_one0, s_one1, zis_so]
  rfl
theorem DY_rng {u : Int → Int} (hso : ∀ S, 0 ≤ S → S < 64 → -1 ≤ so S ∧ so S ≤ 1000) : -1 ≤ DY so W u ∧ DY so W u ≤ 1000 := by
  have r := fun o => stP_rng (fun m => bt W m && decide (u m = o))
  have a0 := hso (ofS W u 0) (r 0).1 (r 0).2
  have a1 := hso (ofS W u 1) (r 1).1 (r 1).2
  have a2 := hso (ofS W u 2) (r 2).1 (r 2).2
  unfold DY
  omega
def pH (H : Int) : Int := zfor (fun _ p => p * H) 6 0 1
theorem pH_rng (hH : 1 ≤ H ∧ H ≤ 3) : 1 ≤ pH H ∧ pH H ≤ 729 := by
  have q : H = 1 ∨ H = 2 ∨ H = 3 := by omega
  rcases q with rfl | rfl | rfl <;> decide
def fbS (dy : Int → Int) (s : Int) (p : Int × Int) : Int × Int := if dy s < p.2 then (s, dy s) else p
theorem l_56a {H : Int} (Wx : Int) : ∀ (n : Nat) (i p : Int) (u5 u6 u7 : Option Value), i + n = 6 → 0 ≤ i → ∀ (d : Nat) (K : zK), Ev d 56 9 [some (.ref (b + 17)), some (.int (zi Wx)), some (.int (zi H)), some (.int (zi p)), some (.int (zi i)), u5, u6, u7] [.int (zi 6), .int (zi i)] M K = Ev d 56 22 [some (.ref (b + 17)), some (.int (zi Wx)), some (.int (zi H)), some (.int (zi (zfor (fun _ p => p * H) n i p))), some (.int (zi 6)), u5, u6, u7] [] M K := by
  intro n
  induction n with
  | zero =>
    intro i p u5 u6 u7 hi h0 d K
    obtain rfl : i = 6 := by omega
    simp (disch := omega) only [zen_56, e_56_0, e_56_1, e_56_2, e_56_3, e_56_5, e_56_7, e_56_9t, e_56_9f, e_56_12, e_56_13, e_56_14, e_56_15, e_56_16, e_56_19, e_56_23, e_56_25, e_56_28, e_56_30, e_56_31, e_56_33, e_56_35, e_56_36t, e_56_36f, e_56_39, e_56_40, e_56_41, e_56_43, e_56_44, e_56_47, e_56_49, e_56_51, e_56_53t, e_56_53f, e_56_56, e_56_58, e_56_60, e_56_62, e_56_64, e_56_67, e_56_70, e_56_72, zPa_some, zPn_some, zRK_some, zRK_none, zCk_t, zis_ob, zget_set_eq, zget_set_ne, zAld_10, zAld_11, zAst_10, zAst_11, zAlen_10, zAlen_11, zbd_t, zbd_f, zb_t, zb_f, zset_set, s_one0, s_one1, zis_so, zfor_0]
  | succ n ih =>
    intro i p u5 u6 u7 hi h0 d K
    rw [zfor_s, ← ih _ _ u5 u6 u7 (by omega) (by omega) d K]
    simp (disch := omega) only [zen_56, e_56_0, e_56_1, e_56_2, e_56_3, e_56_5, e_56_7, e_56_9t, e_56_9f, e_56_12, e_56_13, e_56_14, e_56_15, e_56_16, e_56_19, e_56_23, e_56_25, e_56_28, e_56_30, e_56_31, e_56_33, e_56_35, e_56_36t, e_56_36f, e_56_39, e_56_40, e_56_41, e_56_43, e_56_44, e_56_47, e_56_49, e_56_51, e_56_53t, e_56_53f, e_56_56, e_56_58, e_56_60, e_56_62, e_56_64, e_56_67, e_56_70, e_56_72, zPa_some, zPn_some, zRK_some, zRK_none, zCk_t, zis_ob, zget_set_eq, zget_set_ne, zAld_10, zAld_11, zAst_10, zAst_11, zAlen_10, zAlen_11, zbd_t, zbd_f, zb_t, zb_f, zset_set, s_one0, s_one1, zis_so]
theorem l_56b (x : PL b v R D e so ow st lt M) (hso : ∀ S, 0 ≤ S → S < 64 → -1 ≤ so S ∧ so S ≤ 1000) (hW : 0 ≤ W ∧ W < 64) (hH : 1 ≤ H ∧ H ≤ 3) (N : Int) (hN : 1 ≤ N ∧ N ≤ 729) : ∀ (n : Nat) (s : Int) (p : Int × Int) (u7 : Option Value), s + n = N → 0 ≤ s → (-1 ≤ p.2 ∧ p.2 ≤ 1000) → ∀ (d : Nat) (K : zK), Ev (d + 3) 56 36 [some (.ref (b + 17)), some (.int (zi W)), some (.int (zi H)), some (.int (zi N)), some (.int (zi (p.1))), some (.int (zi (p.2))), some (.int (zi s)), u7] [.int (zi N), .int (zi s)] M K = K (some (.int (zi (zfor (fbS (fun s => DY so W (dgS H s))) n s p).1))) M := by
  intro n
  have ed := s_dayOfSharing x hso hW hH
  have x1 := x.2.1
  induction n with
  | zero =>
    intro s p u7 hs h0 hp d K
    simp (disch := omega) only [zen_56, e_56_0, e_56_1, e_56_2, e_56_3, e_56_5, e_56_7, e_56_9t, e_56_9f, e_56_12, e_56_13, e_56_14, e_56_15, e_56_16, e_56_19, e_56_22, e_56_23, e_56_25, e_56_28, e_56_30, e_56_31, e_56_33, e_56_35, e_56_36t, e_56_36f, e_56_39, e_56_40, e_56_41, e_56_43, e_56_44, e_56_47, e_56_49, e_56_51, e_56_53t, e_56_53f, e_56_56, e_56_58, e_56_60, e_56_62, e_56_64, e_56_67, e_56_70, e_56_72, zPa_some, zPn_some, zRK_some, zRK_none, zCk_t, zis_ob, zget_set_eq, zget_set_ne, zAld_10, zAld_11, zAst_10, zAst_11, zAlen_10, zAlen_11, zbd_t, zbd_f, zb_t, zb_f, zset_set, s_one0, s_one1, zis_so, zfor_0]
  | succ n ih =>
    intro s p u7 hs h0 hp d K
    have dr := DY_rng (W := W) (u := dgS H s) hso
    have r2 : -1 ≤ (fbS (fun s => DY so W (dgS H s)) s p).2 ∧ (fbS (fun s => DY so W (dgS H s)) s p).2 ≤ 1000 := by
      unfold fbS
      split
      · exact dr
      · exact hp
    rw [zfor_s, ← ih _ _ (some (.int (zi (DY so W (dgS H s))))) (by omega) (by omega) r2 d K]
    unfold fbS
    by_cases c : DY so W (dgS H s) < p.2
    · rw [if_pos c]
      simp (disch := omega) only [zen_56, e_56_0, e_56_1, e_56_2, e_56_3, e_56_5, e_56_7, e_56_9t, e_56_9f, e_56_12, e_56_13, e_56_14, e_56_15, e_56_16, e_56_19, e_56_22, e_56_23, e_56_25, e_56_28, e_56_30, e_56_31, e_56_33, e_56_35, e_56_36t, e_56_36f, e_56_39, e_56_40, e_56_41, e_56_43, e_56_44, e_56_47, e_56_49, e_56_51, e_56_53t, e_56_53f, e_56_56, e_56_58, e_56_60, e_56_62, e_56_64, e_56_67, e_56_70, e_56_72, zPa_some, zPn_some, zRK_some, zRK_none, zCk_t, zis_ob, zget_set_eq, zget_set_ne, zAld_10, zAld_11, zAst_10, zAst_11, zAlen_10, zAlen_11, zbd_t, zbd_f, zb_t, zb_f, zset_set, s_one0, s_one1, zis_so, x1, ed]
    · rw [if_neg c]
      simp (disch := omega) only [zen_56, e_56_0, e_56_1, e_56_2, e_56_3, e_56_5, e_56_7, e_56_9t, e_56_9f, e_56_12, e_56_13, e_56_14, e_56_15, e_56_16, e_56_19, e_56_22, e_56_23, e_56_25, e_56_28, e_56_30, e_56_31, e_56_33, e_56_35, e_56_36t, e_56_36f, e_56_39, e_56_40, e_56_41, e_56_43, e_56_44, e_56_47, e_56_49, e_56_51, e_56_53t, e_56_53f, e_56_56, e_56_58, e_56_60, e_56_62, e_56_64, e_56_67, e_56_70, e_56_72, zPa_some, zPn_some, zRK_some, zRK_none, zCk_t, zis_ob, zget_set_eq, zget_set_ne, zAld_10, zAld_11, zAst_10, zAst_11, zAlen_10, zAlen_11, zbd_t, zbd_f, zb_t, zb_f, zset_set, s_one0, s_one1, zis_so, x1, ed]
theorem s_bestSharing (x : PL b v R D e so ow st lt M) (hso : ∀ S, 0 ≤ S → S < 64 → -1 ≤ so S ∧ so S ≤ 1000) (hW : 0 ≤ W ∧ W < 64) (hH : 1 ≤ H ∧ H ≤ 3) : ∀ (d : Nat) (K : zK), zC (d + 4) 56 [.ref (b + 17), .int (zi W), .int (zi H)] M K = K (some (.int (zi (zfor (fbS (fun s => DY so W (dgS H s))) (pH H).toNat 0 (-1, 1000)).1))) M := by
  intro d K
  have pr := pH_rng hH
  have q := l_56b x hso hW hH (pH H) pr (pH H).toNat 0 (-1, 1000) none (by omega) (by omega) (by decide) d K
  rw [← q]
  have a := l_56a (b := b) (M := M) (H := H) W 6 0 1 none none none (by omega) (by omega) (d + 3) K
  simp (disch := omega) only [zen_56, e_56_0, e_56_1, e_56_2, e_56_3, e_56_5, e_56_7, e_56_12, e_56_13, e_56_14, e_56_15, e_56_16, e_56_19, e_56_23, e_56_25, e_56_28, e_56_30, e_56_31, e_56_33, e_56_35, e_56_39, e_56_40, e_56_41, e_56_43, e_56_44, e_56_47, e_56_49, e_56_51, e_56_53t, e_56_53f, e_56_56, e_56_58, e_56_60, e_56_62, e_56_64, e_56_67, e_56_70, e_56_72, zPa_some, zPn_some, zRK_some, zRK_none, zCk_t, zis_ob, zget_set_eq, zget_set_ne, zAld_10, zAld_11, zAst_10, zAst_11, zAlen_10, zAlen_11, zbd_t, zbd_f, zb_t, zb_f, zset_set, s_one0, s_one1, zis_so]
  rw [a]
  simp (disch := omega) only [zen_56, e_56_0, e_56_1, e_56_2, e_56_3, e_56_5, e_56_7, e_56_9t, e_56_9f, e_56_12, e_56_13, e_56_14, e_56_15, e_56_16, e_56_19, e_56_22, e_56_23, e_56_25, e_56_28, e_56_30, e_56_31, e_56_33, e_56_35, e_56_39, e_56_40, e_56_41, e_56_43, e_56_44, e_56_47, e_56_49, e_56_51, e_56_53t, e_56_53f, e_56_56, e_56_58, e_56_60, e_56_62, e_56_64, e_56_67, e_56_70, e_56_72, zPa_some, zPn_some, zRK_some, zRK_none, zCk_t, zis_ob, zget_set_eq, zget_set_ne, zAld_10, zAld_11, zAst_10, zAst_11, zAlen_10, zAlen_11, zbd_t, zbd_f, zb_t, zb_f, zset_set, s_one0, s_one1, zis_so]
  rfl
def owS (W H s : Int) : Int → Int := fun m => if bt W m = true then dgS H s m else -1
theorem l_57 (hW : 0 ≤ W ∧ W < 64) (hH : 1 ≤ H ∧ H ≤ 3) (s : Int) (hs : 0 ≤ s ∧ s < 1000) : ∀ (n : Nat) (i : Int) (ow : Int → Int) (M : zM), PL b v R D e so ow st lt M → i + 1 = n → i < 6 → (∀ j, i < j → j < 6 → ow j = owS W H s j) → ∃ M', (∀ (d : Nat) (K : zK), Ev (d + 2) 57 8 [some (.ref (b + 17)), some (.int (zi W)), some (.int (zi s)), some (.int (zi H)), some (.int (zi (rq H (5 - i).toNat s))), some (.int (zi i))] [.int (zi i)] M K = K none M') ∧ PL b v R D e so (owS W H s) st lt M' ∧ zFr (b + 17) 5 M M' := by
  intro n
  induction n with
  | zero =>
    intro i ow M x hn h6 hq
    obtain rfl : i = -1 := by omega
    refine ⟨M, fun d K => ?_, PL_ext x (fun _ _ _ => rfl) (fun _ _ _ => rfl) (fun j a1 a2 => hq j (by omega) a2) (fun _ _ _ => rfl), zFr_refl⟩
    simp (disch := omega) only [zen_57, e_57_0, e_57_1, e_57_3, e_57_4, e_57_6, e_57_8t, e_57_8f, e_57_11, e_57_12, e_57_15, e_57_17, e_57_18, e_57_20, e_57_23t, e_57_23f, e_57_26, e_57_28, e_57_29, e_57_32, e_57_35, e_57_36, e_57_39, e_57_41, e_57_42, e_57_45, e_57_47, e_57_50, e_57_53, zgf_5_2, zPa_some, zPn_some, zRK_some, zRK_none, zCk_t, zis_ob, zget_set_eq, zget_set_ne, zAld_10, zAld_11, zAst_10, zAst_11, zAlen_10, zAlen_11, zbd_t, zbd_f, zb_t, zb_f, zset_set, s_one0, s_one1, zis_so]
  | succ n ih =>
    intro i ow M x hn h6 hq
    have y := PL_ow (ow' := zu ow i (owS W H s i)) x
    obtain ⟨M', a1, a2, a3⟩ := ih (i - 1) _ _ y (by omega) (by omega) (fun j b1 b2 => by
      unfold zu
      by_cases c : j = i
      · rw [if_pos c, c]
      · rw [if_neg c]; exact hq j (by omega) b2)
    refine ⟨M', fun d K => ?_, a2, zFr_trans (zFr_set (by omega)) a3⟩
    have rr := rq_rng (H := H) (by omega) (5 - i).toNat s (by omega)
    have hd : rq H (5 - i).toNat s % H = dgS H s i := rfl
    have hr : rq H (5 - i).toNat s / H = rq H (5 - (i - 1)).toNat s := by
      rw [show (5 - (i - 1)).toNat = (5 - i).toNat + 1 by omega]
      rfl
    obtain ⟨x0, x1, x2, x3, x4, x5⟩ := x
    have ep := s_putItem x4 (by omega)
    refine Eq.trans ?_ (a1 d K)
    unfold owS
    cases c : bt W i with
    | true =>
      rw [if_pos rfl]
      simp (disch := omega) only [zen_57, e_57_0, e_57_1, e_57_3, e_57_4, e_57_6, e_57_8t, e_57_8f, e_57_11, e_57_12, e_57_15, e_57_17, e_57_18, e_57_20, e_57_23t, e_57_23f, e_57_26, e_57_28, e_57_29, e_57_32, e_57_35, e_57_36, e_57_39, e_57_41, e_57_42, e_57_45, e_57_47, e_57_50, e_57_53, zgf_5_2, zPa_some, zPn_some, zRK_some, zRK_none, zCk_t, zis_ob, zget_set_eq, zget_set_ne, zAld_10, zAld_11, zAst_10, zAst_11, zAlen_10, zAlen_11, zbd_t, zbd_f, zb_t, zb_f, zset_set, s_one0, s_one1, zis_so, x1, s_has, c, ep, s_digitOf, s_withoutDigit, hd, hr]
      try rw [show i + -1 = i - 1 by omega]
    | false =>
      rw [if_neg (by decide)]
      simp (disch := omega) only [zen_57, e_57_0, e_57_1, e_57_3, e_57_4, e_57_6, e_57_8t, e_57_8f, e_57_11, e_57_12, e_57_15, e_57_17, e_57_18, e_57_20, e_57_23t, e_57_23f, e_57_26, e_57_28, e_57_29, e_57_32, e_57_35, e_57_36, e_57_39, e_57_41, e_57_42, e_57_45, e_57_47, e_57_50, e_57_53, zgf_5_2, zPa_some, zPn_some, zRK_some, zRK_none, zCk_t, zis_ob, zget_set_eq, zget_set_ne, zAld_10, zAld_11, zAst_10, zAst_11, zAlen_10, zAlen_11, zbd_t, zbd_f, zb_t, zb_f, zset_set, s_one0, s_one1, zis_so, x1, s_has, c, ep, s_digitOf, s_withoutDigit, hd, hr]
      try rw [show i + -1 = i - 1 by omega]
theorem s_readOwners (x : PL b v R D e so ow st lt M) (hW : 0 ≤ W ∧ W < 64) (hH : 1 ≤ H ∧ H ≤ 3) (s : Int) (hs : 0 ≤ s ∧ s < 1000) : ∃ M', (∀ (d : Nat) (K : zK), zC (d + 3) 57 [.ref (b + 17), .int (zi W), .int (zi s), .int (zi H)] M K = K none M') ∧ PL b v R D e so (owS W H s) st lt M' ∧ zFr (b + 17) 5 M M' := by
  obtain ⟨M', a1, a2, a3⟩ := l_57 hW hH s hs 6 5 ow M x (by omega) (by omega) (fun j b1 b2 => by omega)
  refine ⟨M', fun d K => ?_, a2, a3⟩
  rw [← a1 d K]
  simp (disch := omega) only [zen_57, e_57_0, e_57_1, e_57_3, e_57_4, e_57_6, e_57_11, e_57_12, e_57_15, e_57_17, e_57_18, e_57_20, e_57_23t, e_57_23f, e_57_26, e_57_28, e_57_29, e_57_32, e_57_35, e_57_36, e_57_39, e_57_41, e_57_42, e_57_45, e_57_47, e_57_50, e_57_53, zgf_5_2, zPa_some, zPn_some, zRK_some, zRK_none, zCk_t, zis_ob, zget_set_eq, zget_set_ne, zAld_10, zAld_11, zAst_10, zAst_11, zAlen_10, zAlen_11, zbd_t, zbd_f, zb_t, zb_f, zset_set, s_one0, s_one1, zis_so]
  rfl
end SHX
