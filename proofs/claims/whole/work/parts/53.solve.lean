/-! the class's plan, whole -/
theorem zfor_invI {σ : Type} {f : Int → σ → σ} (P : Int → σ → Prop) : ∀ (n : Nat) (i : Int) (s : σ), P i s → (∀ j t, i ≤ j → j < i + n → P j t → P (j + 1) (f j t)) → P (i + n) (zfor f n i s) := by
  intro n
  induction n with
  | zero =>
    intro i s h _
    rw [zfor_0, show i + (0 : Nat) = i by omega]
    exact h
  | succ n ih =>
    intro i s h hs
    rw [zfor_s, show i + ((n + 1 : Nat) : Int) = (i + 1) + (n : Nat) by omega]
    exact ih (i + 1) _ (hs i s (by omega) (by omega) h) (fun j t h1 h2 h3 => hs j t (by omega) (by omega) h3)
theorem fbS_spec {dy : Int → Int} {N : Nat} {T : Int} : ((zfor (fbS dy) N 0 (-1, T)).1 = -1 ∧ (zfor (fbS dy) N 0 (-1, T)).2 = T ∧ ∀ s : Int, 0 ≤ s → s < N → T ≤ dy s) ∨ ((0 ≤ (zfor (fbS dy) N 0 (-1, T)).1 ∧ (zfor (fbS dy) N 0 (-1, T)).1 < N) ∧ (zfor (fbS dy) N 0 (-1, T)).2 = dy (zfor (fbS dy) N 0 (-1, T)).1 ∧ (zfor (fbS dy) N 0 (-1, T)).2 < T ∧ (∀ s : Int, 0 ≤ s → s < N → (zfor (fbS dy) N 0 (-1, T)).2 ≤ dy s) ∧ ∀ s, 0 ≤ s → s < (zfor (fbS dy) N 0 (-1, T)).1 → (zfor (fbS dy) N 0 (-1, T)).2 < dy s) := by
  have := zfor_invI (f := fbS dy) (fun i (p : Int × Int) => (p.1 = -1 ∧ p.2 = T ∧ ∀ s, 0 ≤ s → s < i → T ≤ dy s) ∨ ((0 ≤ p.1 ∧ p.1 < i) ∧ p.2 = dy p.1 ∧ p.2 < T ∧ (∀ s, 0 ≤ s → s < i → p.2 ≤ dy s) ∧ ∀ s, 0 ≤ s → s < p.1 → p.2 < dy s)) N 0 (-1, T) (Or.inl ⟨rfl, rfl, fun s h1 h2 => by omega⟩) (fun j p h1 h2 h3 => by
    unfold fbS
    by_cases c : dy j < p.2
    · rw [if_pos c]
      right
      rcases h3 with ⟨q1, q2, q3⟩ | ⟨q1, q2, q3, q4, q5⟩
      · refine ⟨⟨h1, by show j < j + 1; omega⟩, rfl, by show dy j < T; omega, fun s s1 s2 => ?_, fun s s1 s2 => ?_⟩
        · show dy j ≤ dy s
          by_cases e : s = j
          · rw [e]; exact Int.le_refl _
          · have := q3 s s1 (by omega); omega
        · show dy j < dy s
          have s3 : s < j := s2
          have := q3 s s1 s3
          omega
      · refine ⟨⟨h1, by show j < j + 1; omega⟩, rfl, by show dy j < T; omega, fun s s1 s2 => ?_, fun s s1 s2 => ?_⟩
        · show dy j ≤ dy s
          by_cases e : s = j
          · rw [e]; exact Int.le_refl _
          · have := q4 s s1 (by omega); omega
        · show dy j < dy s
          have s3 : s < j := s2
          have := q4 s s1 s3
          omega
    · rw [if_neg c]
      rcases h3 with ⟨q1, q2, q3⟩ | ⟨q1, q2, q3, q4, q5⟩
      · refine Or.inl ⟨q1, q2, fun s s1 s2 => ?_⟩
        by_cases e : s = j
        · rw [e]; omega
        · exact q3 s s1 (by omega)
      · refine Or.inr ⟨⟨q1.1, by omega⟩, q2, q3, fun s s1 s2 => ?_, q5⟩
        by_cases e : s = j
        · rw [e]; omega
        · exact q4 s s1 (by omega))
  rw [show (0 : Int) + (N : Nat) = N by omega] at this
  exact this
theorem sgS_out {R : Nat → Int → Int} : ∀ (L : List Int) (S p y : Int) (f : Int → Int) (j : Int), (0 ≤ S ∧ S < 64) → PO L S → 0 ≤ j → j < 6 → bt S j = false → sgS R p y L f j = f j := by
  intro L
  induction L with
  | nil => intro S p y f j hS hp h1 h2 h3; rfl
  | cons m L ih =>
    intro S p y f j hS hp h1 h2 h3
    obtain ⟨hm, b1, hp2⟩ := hp
    have rr := rs_rng (S := S) (m := m) (by omega)
    show sgS R m (enS R p y m) L (zu f m (skS R p y m)) j = f j
    rw [ih (rs S m) _ _ _ j (by omega) hp2 h1 h2 (by rw [bt_rs (by omega), h3, Bool.false_and])]
    unfold zu
    rw [if_neg (fun z => by rw [z, b1] at h3; cases h3)]
theorem sgS_in {R : Nat → Int → Int} : ∀ (L : List Int) (S p y : Int) (f g : Int → Int) (j : Int), (0 ≤ S ∧ S < 64) → PO L S → 0 ≤ j → j < 6 → bt S j = true → sgS R p y L f j = sgS R p y L g j := by
  intro L
  induction L with
  | nil =>
    intro S p y f g j hS hp h1 h2 h3
    have e : S = 0 := hp
    rw [e, bt_0] at h3
    cases h3
  | cons m L ih =>
    intro S p y f g j hS hp h1 h2 h3
    obtain ⟨hm, b1, hp2⟩ := hp
    have rr := rs_rng (S := S) (m := m) (by omega)
    show sgS R m (enS R p y m) L (zu f m (skS R p y m)) j = sgS R m (enS R p y m) L (zu g m (skS R p y m)) j
    by_cases c : j = m
    · have b2 : bt (rs S m) j = false := by rw [bt_rs (by omega), decide_eq_true c, Bool.not_true, Bool.and_false]
      rw [sgS_out L _ _ _ _ j (by omega) hp2 h1 h2 b2, sgS_out L _ _ _ _ j (by omega) hp2 h1 h2 b2]
      unfold zu
      rw [if_pos c, if_pos c]
    · exact ih (rs S m) _ _ _ _ j (by omega) hp2 h1 h2 (by rw [bt_rs (by omega), h3, decide_eq_false c]; rfl)
section SOLVE
variable {b : Nat} {v : Nat → Int} {R : Nat → Int → Int} {D : Int → Bool} {W H : Int} {e so ow : Int → Int} {lt : Int}
theorem s_goOn (rm : RM R D) (hlt : -1 ≤ lt ∧ lt ≤ 30) : ∀ n : Nat, GOn b v R D e so ow lt n := by
  intro n
  induction n with
  | zero =>
    intro S p y dp st M x hdp hd0 hS hD hp
    obtain rfl : dp = 6 := by omega
    by_cases c : S = 0
    · have e1 : dfS R lt 0 S p y = some [] := by unfold dfS; rw [if_pos c]
      rw [e1]
      refine ⟨M, st, fun d K => ?_, x, zFr_refl, fun _ _ _ _ => rfl, fun L q => by cases q; exact fun _ _ _ => rfl⟩
      simp (disch := omega) only [zen_62, e_62_0, e_62_1t, e_62_1f, e_62_4, e_62_6, e_62_8t, e_62_8f, e_62_11, e_62_12t, e_62_12f, e_62_15, e_62_16, e_62_19, e_62_20, e_62_21, e_62_22, e_62_24, e_62_26, e_62_28t, e_62_28f, e_62_31, e_62_32, e_62_34, e_62_37t, e_62_37f, e_62_40, e_62_43, e_62_44, e_62_45t, e_62_45f, e_62_48, e_62_49, e_62_51, e_62_54, e_62_57, e_62_58, e_62_59, e_62_61, e_62_63, e_62_66, e_62_68, e_62_69, e_62_71, e_62_73, e_62_76, e_62_78, e_62_79, e_62_81, e_62_83, e_62_86t, e_62_86f, e_62_89, e_62_91, e_62_92, e_62_95t, e_62_95f, e_62_98, e_62_101, e_62_102, e_62_105, e_62_107, e_62_109, e_62_112, e_62_113, e_62_114, e_62_115, e_62_116, e_62_118, e_62_119, e_62_120, e_62_121, e_62_122, e_62_124, e_62_126, e_62_128, e_62_129, e_62_130, e_62_133t, e_62_133f, e_62_136, e_62_137, e_62_138, e_62_141, e_62_144, e_62_145, zgf_5_3, zgf_5_4, zPa_some, zPn_some, zRK_some, zRK_none, zCk_t, zis_ob, zget_set_eq, zget_set_ne, zAld_10, zAld_11, zAst_10, zAst_11, zAlen_10, zAlen_11, zbd_t, zbd_f, zb_t, zb_f, zset_set, s_one0, s_one1, zis_so]
      rfl
    · have e1 : dfS R lt 0 S p y = none := by unfold dfS; rw [if_neg c]
      rw [e1]
      refine ⟨M, st, fun d K => ?_, x, zFr_refl, fun _ _ _ _ => rfl, fun L q => by cases q⟩
      simp (disch := omega) only [zen_62, e_62_0, e_62_1t, e_62_1f, e_62_4, e_62_6, e_62_8t, e_62_8f, e_62_11, e_62_12t, e_62_12f, e_62_15, e_62_16, e_62_19, e_62_20, e_62_21, e_62_22, e_62_24, e_62_26, e_62_28t, e_62_28f, e_62_31, e_62_32, e_62_34, e_62_37t, e_62_37f, e_62_40, e_62_43, e_62_44, e_62_45t, e_62_45f, e_62_48, e_62_49, e_62_51, e_62_54, e_62_57, e_62_58, e_62_59, e_62_61, e_62_63, e_62_66, e_62_68, e_62_69, e_62_71, e_62_73, e_62_76, e_62_78, e_62_79, e_62_81, e_62_83, e_62_86t, e_62_86f, e_62_89, e_62_91, e_62_92, e_62_95t, e_62_95f, e_62_98, e_62_101, e_62_102, e_62_105, e_62_107, e_62_109, e_62_112, e_62_113, e_62_114, e_62_115, e_62_116, e_62_118, e_62_119, e_62_120, e_62_121, e_62_122, e_62_124, e_62_126, e_62_128, e_62_129, e_62_130, e_62_133t, e_62_133f, e_62_136, e_62_137, e_62_138, e_62_141, e_62_144, e_62_145, zgf_5_3, zgf_5_4, zPa_some, zPn_some, zRK_some, zRK_none, zCk_t, zis_ob, zget_set_eq, zget_set_ne, zAld_10, zAld_11, zAst_10, zAst_11, zAlen_10, zAlen_11, zbd_t, zbd_f, zb_t, zb_f, zset_set, s_one0, s_one1, zis_so]
      rfl
  | succ n ih =>
    intro S p y dp st M x hdp hd0 hS hD hp
    by_cases c : S = 0
    · have e1 : dfS R lt (n + 1) S p y = some [] := by unfold dfS; rw [if_pos c]
      rw [e1]
      refine ⟨M, st, fun d K => ?_, x, zFr_refl, fun _ _ _ _ => rfl, fun L q => by cases q; exact fun _ _ _ => rfl⟩
      simp (disch := omega) only [zen_62, e_62_0, e_62_1t, e_62_1f, e_62_4, e_62_6, e_62_8t, e_62_8f, e_62_11, e_62_12t, e_62_12f, e_62_15, e_62_16, e_62_19, e_62_20, e_62_21, e_62_22, e_62_24, e_62_26, e_62_28t, e_62_28f, e_62_31, e_62_32, e_62_34, e_62_37t, e_62_37f, e_62_40, e_62_43, e_62_44, e_62_45t, e_62_45f, e_62_48, e_62_49, e_62_51, e_62_54, e_62_57, e_62_58, e_62_59, e_62_61, e_62_63, e_62_66, e_62_68, e_62_69, e_62_71, e_62_73, e_62_76, e_62_78, e_62_79, e_62_81, e_62_83, e_62_86t, e_62_86f, e_62_89, e_62_91, e_62_92, e_62_95t, e_62_95f, e_62_98, e_62_101, e_62_102, e_62_105, e_62_107, e_62_109, e_62_112, e_62_113, e_62_114, e_62_115, e_62_116, e_62_118, e_62_119, e_62_120, e_62_121, e_62_122, e_62_124, e_62_126, e_62_128, e_62_129, e_62_130, e_62_133t, e_62_133f, e_62_136, e_62_137, e_62_138, e_62_141, e_62_144, e_62_145, zgf_5_3, zgf_5_4, zPa_some, zPn_some, zRK_some, zRK_none, zCk_t, zis_ob, zget_set_eq, zget_set_ne, zAld_10, zAld_11, zAst_10, zAst_11, zAlen_10, zAlen_11, zbd_t, zbd_f, zb_t, zb_f, zset_set, s_one0, s_one1, zis_so]
      rfl
    · have e1 : dfS R lt (n + 1) S p y = (mlS 6 0).findSome? (ndS R lt n S p y) := by
        unfold dfS
        rw [if_neg c]
        rfl
      rw [e1]
      obtain ⟨M', st', a1, a2, a3, a4⟩ := l_62 rm hlt n ih S p y dp hdp hd0 hS hD hp 6 0 st M none none x (by omega) (by omega)
      refine ⟨M', st', fun d K => ?_, a2, a3, a4⟩
      rw [← a1 d K]
      simp (disch := omega) only [zen_62, e_62_0, e_62_1t, e_62_1f, e_62_4, e_62_6, e_62_8t, e_62_8f, e_62_11, e_62_12t, e_62_12f, e_62_15, e_62_16, e_62_19, e_62_20, e_62_21, e_62_22, e_62_24, e_62_26, e_62_31, e_62_32, e_62_34, e_62_37t, e_62_37f, e_62_40, e_62_43, e_62_44, e_62_45t, e_62_45f, e_62_48, e_62_49, e_62_51, e_62_54, e_62_57, e_62_58, e_62_59, e_62_61, e_62_63, e_62_66, e_62_68, e_62_69, e_62_71, e_62_73, e_62_76, e_62_78, e_62_79, e_62_81, e_62_83, e_62_86t, e_62_86f, e_62_89, e_62_91, e_62_92, e_62_95t, e_62_95f, e_62_98, e_62_101, e_62_102, e_62_105, e_62_107, e_62_109, e_62_112, e_62_113, e_62_114, e_62_115, e_62_116, e_62_118, e_62_119, e_62_120, e_62_121, e_62_122, e_62_124, e_62_126, e_62_128, e_62_129, e_62_130, e_62_133t, e_62_133f, e_62_136, e_62_137, e_62_138, e_62_141, e_62_144, e_62_145, zgf_5_3, zgf_5_4, zPa_some, zPn_some, zRK_some, zRK_none, zCk_t, zis_ob, zget_set_eq, zget_set_ne, zAld_10, zAld_11, zAst_10, zAst_11, zAlen_10, zAlen_11, zbd_t, zbd_f, zb_t, zb_f, zset_set, s_one0, s_one1, zis_so]
      rfl
def soO (ow : Int → Int) (o : Int) : Int := stP (fun m => decide (ow m = o))
theorem l_61m {M : zM} {st : Int → Int} (x : PL b v R D e so ow st lt M) (how : ∀ j, 0 ≤ j → j < 6 → -1 ≤ ow j ∧ ow j ≤ 2) (o : Int) (ho : 0 ≤ o ∧ o ≤ 3) : ∀ (n : Nat) (m s : Int), m + n = 6 → 0 ≤ m → ∀ (d : Nat) (K : zK), Ev (d + 2) 61 17 [some (.ref (b + 17)), some (.ref (b + 12)), some (.int (zi H)), some (.int (zi o)), some (.int (zi s)), some (.int (zi m))] [.int (zi 6), .int (zi m)] M K = Ev (d + 2) 61 55 [some (.ref (b + 17)), some (.ref (b + 12)), some (.int (zi H)), some (.int (zi o)), some (.int (zi (zfor (fun m s => zor s (if decide (ow m = o) = true then pw m else 0)) n m s))), some (.int (zi 6))] [] M K := by
  intro n
  obtain ⟨x0, x1, x2, x3, x4, x5⟩ := x
  have ei := s_itemOf x4 (by omega)
  induction n with
  | zero =>
    intro m s hm h0 d K
    obtain rfl : m = 6 := by omega
    simp (disch := omega) only [zen_61, e_61_0, e_61_1, e_61_2, e_61_3, e_61_4t, e_61_4f, e_61_7, e_61_8, e_61_10, e_61_11, e_61_13, e_61_15, e_61_17t, e_61_17f, e_61_20, e_61_22, e_61_23, e_61_26, e_61_28, e_61_31, e_61_32t, e_61_32f, e_61_35, e_61_36, e_61_39, e_61_40, e_61_43, e_61_45, e_61_46, e_61_47, e_61_49, e_61_52, e_61_56, e_61_57, e_61_59, e_61_60, e_61_61, e_61_62, e_61_65, e_61_66, e_61_69, e_61_72, zgf_5_2, zPa_some, zPn_some, zRK_some, zRK_none, zCk_t, zis_ob, zget_set_eq, zget_set_ne, zAld_10, zAld_11, zAst_10, zAst_11, zAlen_10, zAlen_11, zbd_t, zbd_f, zb_t, zb_f, zset_set, s_one0, s_one1, zis_so, zfor_0]
  | succ n ih =>
    intro m s hm h0 d K
    have hw := how m h0 (by omega)
    have z1 := zshl_pw (m := m) (by omega)
    rw [zfor_s, ← ih _ _ (by omega) (by omega) d K]
    by_cases c : ow m = o
    · rw [decide_eq_true c, if_pos rfl]
      simp (disch := omega) only [zen_61, e_61_0, e_61_1, e_61_2, e_61_3, e_61_4t, e_61_4f, e_61_7, e_61_8, e_61_10, e_61_11, e_61_13, e_61_15, e_61_17t, e_61_17f, e_61_20, e_61_22, e_61_23, e_61_26, e_61_28, e_61_31, e_61_32t, e_61_32f, e_61_35, e_61_36, e_61_39, e_61_40, e_61_43, e_61_45, e_61_46, e_61_47, e_61_49, e_61_52, e_61_56, e_61_57, e_61_59, e_61_60, e_61_61, e_61_62, e_61_65, e_61_66, e_61_69, e_61_72, zgf_5_2, zPa_some, zPn_some, zRK_some, zRK_none, zCk_t, zis_ob, zget_set_eq, zget_set_ne, zAld_10, zAld_11, zAst_10, zAst_11, zAlen_10, zAlen_11, zbd_t, zbd_f, zb_t, zb_f, zset_set, s_one0, s_one1, zis_so, x1, ei, z1]
    · rw [decide_eq_false c, if_neg (by decide)]
      simp (disch := omega) only [zen_61, e_61_0, e_61_1, e_61_2, e_61_3, e_61_4t, e_61_4f, e_61_7, e_61_8, e_61_10, e_61_11, e_61_13, e_61_15, e_61_17t, e_61_17f, e_61_20, e_61_22, e_61_23, e_61_26, e_61_28, e_61_31, e_61_32t, e_61_32f, e_61_35, e_61_36, e_61_39, e_61_40, e_61_43, e_61_45, e_61_46, e_61_47, e_61_49, e_61_52, e_61_56, e_61_57, e_61_59, e_61_60, e_61_61, e_61_62, e_61_65, e_61_66, e_61_69, e_61_72, zgf_5_2, zPa_some, zPn_some, zRK_some, zRK_none, zCk_t, zis_ob, zget_set_eq, zget_set_ne, zAld_10, zAld_11, zAst_10, zAst_11, zAlen_10, zAlen_11, zbd_t, zbd_f, zb_t, zb_f, zset_set, s_one0, s_one1, zis_so, x1, ei, zshl_0]
def posS (R : Nat → Int → Int) (lt : Int) (ow st : Int → Int) (k : Int) : Prop := ∀ o, 0 ≤ o → o < k → ∀ L, dfS R lt 6 (soO ow o) (-1) (-1) = some L → ∀ j, 0 ≤ j → j < 6 → ow j = o → st j = sgS R (-1) (-1) L (fun _ => 0) j
theorem l_61 (rm : RM R D) (hlt : -1 ≤ lt ∧ lt ≤ 30) (hH : 1 ≤ H ∧ H ≤ 3) (how : ∀ j, 0 ≤ j → j < 6 → -1 ≤ ow j ∧ ow j ≤ 2 ∧ (0 ≤ ow j → D j = true)) : ∀ (n : Nat) (o : Int) (st : Int → Int) (M : zM) (u4 u5 : Option Value), PL b v R D e so ow st lt M → o + n = H → 0 ≤ o → posS R lt ow st o → (∀ j, 0 ≤ j → j < 6 → ow j = -1 → st j = -1) → ∃ M' st', (∀ (d : Nat) (K : zK), Ev (d + 12) 61 4 [some (.ref (b + 17)), some (.ref (b + 12)), some (.int (zi H)), some (.int (zi o)), u4, u5] [.int (zi H), .int (zi o)] M K = K none M') ∧ PL b v R D e so ow st' lt M' ∧ zFr (b + 17) 5 M M' ∧ posS R lt ow st' H ∧ (∀ j, 0 ≤ j → j < 6 → ow j = -1 → st' j = -1) := by
  intro n
  induction n with
  | zero =>
    intro o st M u4 u5 x hn h0 hq hr
    obtain rfl : o = H := by omega
    refine ⟨M, st, fun d K => ?_, x, zFr_refl, hq, hr⟩
    simp (disch := omega) only [zen_61, e_61_0, e_61_1, e_61_2, e_61_3, e_61_4t, e_61_4f, e_61_7, e_61_8, e_61_10, e_61_11, e_61_13, e_61_15, e_61_20, e_61_22, e_61_23, e_61_26, e_61_28, e_61_31, e_61_32t, e_61_32f, e_61_35, e_61_36, e_61_39, e_61_40, e_61_43, e_61_45, e_61_46, e_61_47, e_61_49, e_61_52, e_61_55, e_61_56, e_61_57, e_61_59, e_61_60, e_61_61, e_61_62, e_61_65, e_61_66, e_61_69, e_61_72, zgf_5_2, zPa_some, zPn_some, zRK_some, zRK_none, zCk_t, zis_ob, zget_set_eq, zget_set_ne, zAld_10, zAld_11, zAst_10, zAst_11, zAlen_10, zAlen_11, zbd_t, zbd_f, zb_t, zb_f, zset_set, s_one0, s_one1, zis_so]
  | succ n ih =>
    intro o st M u4 u5 x hn h0 hq hr
    have rS := stP_rng (fun m => decide (ow m = o))
    have hin : ∀ j, 0 ≤ j → j < 6 → (bt (soO ow o) j = true ↔ ow j = o) := fun j j1 j2 => by
      unfold soO
      rw [bt_stP ⟨j1, j2⟩, decide_eq_true_iff]
    obtain ⟨M1, st1, a1, a2, a3, a4⟩ := s_goOn (b := b) (v := v) (e := e) (so := so) (ow := ow) rm hlt 6 (soO ow o) (-1) (-1) 0 st M x (by omega) (by omega) rS (fun j j1 j2 j3 => (how j j1 j2).2.2 (by rw [(hin j j1 j2).mp j3]; exact h0)) (Or.inl ⟨rfl, rfl⟩)
    have off : ∀ j, 0 ≤ j → j < 6 → ow j ≠ o → st1 j = st j := fun j j1 j2 j3 => a4.1 j j1 j2 (by
      cases c : bt (soO ow o) j with
      | true => exact absurd ((hin j j1 j2).mp c) j3
      | false => rfl)
    obtain ⟨M', st', c1, c2, c3, c4, c5⟩ := ih (o + 1) st1 M1 (some (.int (zi (soO ow o)))) (some (.int (zi 6))) a2 (by omega) (by omega) (fun o' b1 b2 L hL j j1 j2 j3 => by
      by_cases q : o' = o
      · subst q
        rw [a4.2 L hL j j1 j2]
        exact sgS_in L (soO ow o') (-1) (-1) st (fun _ => 0) j rS (dfS_PO 6 _ _ _ L hL) j1 j2 ((hin j j1 j2).mpr j3)
      · rw [off j j1 j2 (by omega)]
        exact hq o' b1 (by omega) L hL j j1 j2 j3) (fun j j1 j2 j3 => by rw [off j j1 j2 (by omega)]; exact hr j j1 j2 j3)
    refine ⟨M', st', fun d K => ?_, c2, zFr_trans a3 c3, c4, c5⟩
    rw [← c1 d K]
    have em := l_61m (H := H) x (fun j j1 j2 => ⟨(how j j1 j2).1, (how j j1 j2).2.1⟩) o (by omega) 6 0 0 (by omega) (by omega) (d + 10) K
    rw [show zfor (fun m s => zor s (if decide (ow m = o) = true then pw m else 0)) 6 0 0 = soO ow o from rfl] at em
    have y1 := x.1.1
    have x1 := x.2.1
    simp (disch := omega) only [zen_61, e_61_0, e_61_1, e_61_2, e_61_3, e_61_4t, e_61_4f, e_61_7, e_61_8, e_61_10, e_61_11, e_61_13, e_61_15, e_61_20, e_61_22, e_61_23, e_61_26, e_61_28, e_61_31, e_61_32t, e_61_32f, e_61_35, e_61_36, e_61_39, e_61_40, e_61_43, e_61_45, e_61_46, e_61_47, e_61_49, e_61_52, e_61_56, e_61_57, e_61_59, e_61_60, e_61_61, e_61_62, e_61_65, e_61_66, e_61_69, e_61_72, zgf_5_2, zPa_some, zPn_some, zRK_some, zRK_none, zCk_t, zis_ob, zget_set_eq, zget_set_ne, zAld_10, zAld_11, zAst_10, zAst_11, zAlen_10, zAlen_11, zbd_t, zbd_f, zb_t, zb_f, zset_set, s_one0, s_one1, zis_so]
    rw [em]
    simp (disch := omega) only [zen_61, e_61_0, e_61_1, e_61_2, e_61_3, e_61_7, e_61_8, e_61_10, e_61_11, e_61_13, e_61_15, e_61_20, e_61_22, e_61_23, e_61_26, e_61_28, e_61_31, e_61_32t, e_61_32f, e_61_35, e_61_36, e_61_39, e_61_40, e_61_43, e_61_45, e_61_46, e_61_47, e_61_49, e_61_52, e_61_55, e_61_56, e_61_57, e_61_59, e_61_60, e_61_61, e_61_62, e_61_65, e_61_66, e_61_69, e_61_72, zgf_5_2, zPa_some, zPn_some, zRK_some, zRK_none, zCk_t, zis_ob, zget_set_eq, zget_set_ne, zAld_10, zAld_11, zAst_10, zAst_11, zAlen_10, zAlen_11, zbd_t, zbd_f, zb_t, zb_f, zset_set, s_one0, s_one1, zis_so, x1, y1, a1]
theorem s_layOut (rm : RM R D) (hlt : -1 ≤ lt ∧ lt ≤ 30) (hH : 1 ≤ H ∧ H ≤ 3) (how : ∀ j, 0 ≤ j → j < 6 → -1 ≤ ow j ∧ ow j ≤ 2 ∧ (0 ≤ ow j → D j = true)) {st : Int → Int} {M : zM} (x : PL b v R D e so ow st lt M) (hr : ∀ j, 0 ≤ j → j < 6 → st j = -1) : ∃ M' st', (∀ (d : Nat) (K : zK), zC (d + 13) 61 [.ref (b + 17), .ref (b + 12), .int (zi H)] M K = K none M') ∧ PL b v R D e so ow st' lt M' ∧ zFr (b + 17) 5 M M' ∧ posS R lt ow st' H ∧ (∀ j, 0 ≤ j → j < 6 → ow j = -1 → st' j = -1) := by
  obtain ⟨M', st', c1, c2, c3, c4, c5⟩ := l_61 (b := b) (v := v) (e := e) (so := so) rm hlt hH how H.toNat 0 st M none none x (by omega) (by omega) (fun o q1 q2 => by omega) (fun j j1 j2 _ => hr j j1 j2)
  refine ⟨M', st', fun d K => ?_, c2, c3, c4, c5⟩
  rw [← c1 d K]
  simp (disch := omega) only [zen_61, e_61_0, e_61_1, e_61_2, e_61_3, e_61_7, e_61_8, e_61_10, e_61_11, e_61_13, e_61_15, e_61_17t, e_61_17f, e_61_20, e_61_22, e_61_23, e_61_26, e_61_28, e_61_31, e_61_32t, e_61_32f, e_61_35, e_61_36, e_61_39, e_61_40, e_61_43, e_61_45, e_61_46, e_61_47, e_61_49, e_61_52, e_61_55, e_61_56, e_61_57, e_61_59, e_61_60, e_61_61, e_61_62, e_61_65, e_61_66, e_61_69, e_61_72, zgf_5_2, zPa_some, zPn_some, zRK_some, zRK_none, zCk_t, zis_ob, zget_set_eq, zget_set_ne, zAld_10, zAld_11, zAst_10, zAst_11, zAlen_10, zAlen_11, zbd_t, zbd_f, zb_t, zb_f, zset_set, s_one0, s_one1, zis_so]
theorem l_50a : ∀ (n : Nat) (m : Int) (ow st : Int → Int) (M : zM) (u3 : Option Value), PL b v R D e so ow st lt M → m + n = 6 → 0 ≤ m → ∃ M', (∀ (d : Nat) (K : zK), Ev d 50 5 [some (.ref (b + 17)), some (.ref (b + 12)), some (.int (zi m)), u3] [.int (zi 6), .int (zi m)] M K = Ev d 50 28 [some (.ref (b + 17)), some (.ref (b + 12)), some (.int (zi 6)), u3] [] M' K) ∧ PL b v R D e so (up m 6 (fun _ => -1) ow) (up m 6 (fun _ => -1) st) lt M' ∧ zFr (b + 17) 5 M M' := by
  intro n
  induction n with
  | zero =>
    intro m ow st M u3 x hm h0
    obtain rfl : m = 6 := by omega
    refine ⟨M, fun d K => ?_, by rw [up_none, up_none]; exact x, zFr_refl⟩
    simp (disch := omega) only [zen_50, e_50_0, e_50_1, e_50_2, e_50_3, e_50_5t, e_50_5f, e_50_8, e_50_9, e_50_12, e_50_13, e_50_14, e_50_15, e_50_16, e_50_19, e_50_20, e_50_21, e_50_22, e_50_25, e_50_29, e_50_30, e_50_33, e_50_34, e_50_35, e_50_36, e_50_37, e_50_38, e_50_40t, e_50_40f, e_50_43, e_50_44, e_50_45, e_50_46, e_50_49, e_50_52, e_50_53, e_50_54, e_50_55, e_50_56, e_50_59, e_50_62, e_50_63t, e_50_63f, e_50_66, e_50_67, e_50_68, e_50_69, e_50_70, e_50_73, e_50_74, e_50_75, e_50_76, e_50_79, e_50_82, e_50_83, e_50_84, e_50_85t, e_50_85f, e_50_88, e_50_89, e_50_90, e_50_91, e_50_92, e_50_93, e_50_96, e_50_99, e_50_102, e_50_103, e_50_104, e_50_105, e_50_106, e_50_109, e_50_112, e_50_113, e_50_114, e_50_115, e_50_118, e_50_121, zgf_4_4, zgf_5_2, zgf_5_3, zpf_5_4, zPa_some, zPn_some, zRK_some, zRK_none, zCk_t, zis_ob, zget_set_eq, zget_set_ne, zAld_10, zAld_11, zAst_10, zAst_11, zAlen_10, zAlen_11, zbd_t, zbd_f, zb_t, zb_f, zset_set, s_one0, s_one1, zis_so]
  | succ n ih =>
    intro m ow st M u3 x hm h0
    have y := PL_st (st' := fun j => if j = m then -1 else st j) (PL_ow (ow' := fun j => if j = m then -1 else ow j) x)
    obtain ⟨M', a1, a2, a3⟩ := ih (m + 1) _ _ _ u3 y (by omega) (by omega)
    refine ⟨M', fun d K => ?_, by rw [up_step (by omega), up_step (F := st) (by omega)]; exact a2, zFr_trans (zFr_trans (zFr_set (by omega)) (zFr_set (by omega))) a3⟩
    refine Eq.trans ?_ (a1 d K)
    obtain ⟨x0, x1, x2, x3, x4, x5⟩ := x
    simp (disch := omega) only [zen_50, e_50_0, e_50_1, e_50_2, e_50_3, e_50_5t, e_50_5f, e_50_8, e_50_9, e_50_12, e_50_13, e_50_14, e_50_15, e_50_16, e_50_19, e_50_20, e_50_21, e_50_22, e_50_25, e_50_29, e_50_30, e_50_33, e_50_34, e_50_35, e_50_36, e_50_37, e_50_38, e_50_40t, e_50_40f, e_50_43, e_50_44, e_50_45, e_50_46, e_50_49, e_50_52, e_50_53, e_50_54, e_50_55, e_50_56, e_50_59, e_50_62, e_50_63t, e_50_63f, e_50_66, e_50_67, e_50_68, e_50_69, e_50_70, e_50_73, e_50_74, e_50_75, e_50_76, e_50_79, e_50_82, e_50_83, e_50_84, e_50_85t, e_50_85f, e_50_88, e_50_89, e_50_90, e_50_91, e_50_92, e_50_93, e_50_96, e_50_99, e_50_102, e_50_103, e_50_104, e_50_105, e_50_106, e_50_109, e_50_112, e_50_113, e_50_114, e_50_115, e_50_118, e_50_121, zgf_4_4, zgf_5_2, zgf_5_3, zpf_5_4, zPa_some, zPn_some, zRK_some, zRK_none, zCk_t, zis_ob, zget_set_eq, zget_set_ne, zAld_10, zAld_11, zAst_10, zAst_11, zAlen_10, zAlen_11, zbd_t, zbd_f, zb_t, zb_f, zset_set, s_one0, s_one1, zis_so, x1, x4, x5]
    rfl
theorem l_50b {ow st : Int → Int} {M : zM} (x : PL b v R D e so ow st lt M) (rm : RM R D) : ∀ (n : Nat) (m s : Int), m + n = 6 → 0 ≤ m → ∀ (d : Nat) (K : zK), Ev (d + 3) 50 40 [some (.ref (b + 17)), some (.ref (b + 12)), some (.int (zi s)), some (.int (zi m))] [.int (zi 6), .int (zi m)] M K = Ev (d + 3) 50 62 [some (.ref (b + 17)), some (.ref (b + 12)), some (.int (zi (zfor (fun m s => zor s (if D m = true then pw m else 0)) n m s))), some (.int (zi 6))] [] M K := by
  intro n
  have e1 := s_isDue x.1 rm
  have y1 := x.1.1
  induction n with
  | zero =>
    intro m s hm h0 d K
    obtain rfl : m = 6 := by omega
    simp (disch := omega) only [zen_50, e_50_0, e_50_1, e_50_2, e_50_3, e_50_5t, e_50_5f, e_50_8, e_50_9, e_50_12, e_50_13, e_50_14, e_50_15, e_50_16, e_50_19, e_50_20, e_50_21, e_50_22, e_50_25, e_50_28, e_50_29, e_50_30, e_50_33, e_50_34, e_50_35, e_50_36, e_50_37, e_50_38, e_50_40t, e_50_40f, e_50_43, e_50_44, e_50_45, e_50_46, e_50_49, e_50_52, e_50_53, e_50_54, e_50_55, e_50_56, e_50_59, e_50_63t, e_50_63f, e_50_66, e_50_67, e_50_68, e_50_69, e_50_70, e_50_73, e_50_74, e_50_75, e_50_76, e_50_79, e_50_82, e_50_83, e_50_84, e_50_85t, e_50_85f, e_50_88, e_50_89, e_50_90, e_50_91, e_50_92, e_50_93, e_50_96, e_50_99, e_50_102, e_50_103, e_50_104, e_50_105, e_50_106, e_50_109, e_50_112, e_50_113, e_50_114, e_50_115, e_50_118, e_50_121, zgf_4_4, zgf_5_2, zgf_5_3, zpf_5_4, zPa_some, zPn_some, zRK_some, zRK_none, zCk_t, zis_ob, zget_set_eq, zget_set_ne, zAld_10, zAld_11, zAst_10, zAst_11, zAlen_10, zAlen_11, zbd_t, zbd_f, zb_t, zb_f, zset_set, s_one0, s_one1, zis_so, zfor_0]
  | succ n ih =>
    intro m s hm h0 d K
    have z1 := zshl_zb (b := D m) (m := m) (by omega)
    rw [zfor_s, ← ih _ _ (by omega) (by omega) d K]
    simp (disch := omega) only [zen_50, e_50_0, e_50_1, e_50_2, e_50_3, e_50_5t, e_50_5f, e_50_8, e_50_9, e_50_12, e_50_13, e_50_14, e_50_15, e_50_16, e_50_19, e_50_20, e_50_21, e_50_22, e_50_25, e_50_28, e_50_29, e_50_30, e_50_33, e_50_34, e_50_35, e_50_36, e_50_37, e_50_38, e_50_40t, e_50_40f, e_50_43, e_50_44, e_50_45, e_50_46, e_50_49, e_50_52, e_50_53, e_50_54, e_50_55, e_50_56, e_50_59, e_50_63t, e_50_63f, e_50_66, e_50_67, e_50_68, e_50_69, e_50_70, e_50_73, e_50_74, e_50_75, e_50_76, e_50_79, e_50_82, e_50_83, e_50_84, e_50_85t, e_50_85f, e_50_88, e_50_89, e_50_90, e_50_91, e_50_92, e_50_93, e_50_96, e_50_99, e_50_102, e_50_103, e_50_104, e_50_105, e_50_106, e_50_109, e_50_112, e_50_113, e_50_114, e_50_115, e_50_118, e_50_121, zgf_4_4, zgf_5_2, zgf_5_3, zpf_5_4, zPa_some, zPn_some, zRK_some, zRK_none, zCk_t, zis_ob, zget_set_eq, zget_set_ne, zAld_10, zAld_11, zAst_10, zAst_11, zAlen_10, zAlen_11, zbd_t, zbd_f, zb_t, zb_f, zset_set, s_one0, s_one1, zis_so, y1, e1, s_oneIf, z1]
def SOL (R : Nat → Int → Int) (D : Int → Bool) (H : Int) (ow st : Int → Int) (lt : Int) : Prop := (stP D = 0 → lt = -1 ∧ ∀ j, 0 ≤ j → j < 6 → ow j = -1 ∧ st j = -1) ∧ (stP D ≠ 0 → ∃ e : Int → Int, HKe R (stP D) e 64 ∧ ∃ B : Int, B = (zfor (fbS (fun s => DY (soS e) (stP D) (dgS H s))) (pH H).toNat 0 (-1, 1000)).1 ∧ (B = -1 → lt = -1 ∧ ∀ j, 0 ≤ j → j < 6 → ow j = -1 ∧ st j = -1) ∧ (B ≠ -1 → lt = DY (soS e) (stP D) (dgS H B) ∧ (∀ j, 0 ≤ j → j < 6 → ow j = owS (stP D) H B j) ∧ posS R lt (owS (stP D) H B) st H ∧ ∀ j, 0 ≤ j → j < 6 → D j = false → st j = -1))
theorem sub_of {W : Int} {u : Int → Int} {o : Int} : sub (ofS W u o) W := fun m h1 h2 h3 => by
  unfold ofS at h3
  rw [bt_stP ⟨h1, h2⟩, Bool.and_eq_true_iff] at h3
  exact h3.1
theorem DY_congr {so so' : Int → Int} {W : Int} {u : Int → Int} (h : ∀ S, 0 ≤ S → S < 64 → so S = so' S) : DY so W u = DY so' W u := by
  have r := fun o => stP_rng (fun m => bt W m && decide (u m = o))
  unfold DY
  rw [h (ofS W u 0) (r 0).1 (r 0).2, h (ofS W u 1) (r 1).1 (r 1).2, h (ofS W u 2) (r 2).1 (r 2).2]
theorem s_solve {ow st : Int → Int} {M : zM} (x : PL b v R D e so ow st lt M) (rm : RM R D) (rv : RV v) : ∃ M' e' so' ow' st' lt', (∀ (d : Nat) (K : zK), zC (d + 14) 50 [.ref (b + 17), .ref (b + 12)] M K = K none M') ∧ PL b v R D e' so' ow' st' lt' M' ∧ zFr (b + 17) 5 M M' ∧ SOL R D (v 31) ow' st' lt' ∧ (-1 ≤ lt' ∧ lt' ≤ 30) := by
  obtain ⟨M1, a1, a2, a3⟩ := l_50a (b := b) (v := v) (R := R) (D := D) 6 0 ow st M none x (by omega) (by omega)
  have a2 := PL_ext (e' := e) (so' := so) (ow' := fun _ => -1) (st' := fun _ => -1) a2 (fun _ _ _ => rfl) (fun _ _ _ => rfl) (fun j j1 j2 => by unfold up; rw [if_pos (by omega)]) (fun j j1 j2 => by unfold up; rw [if_pos (by omega)])
  have y := PL_lt (lt' := -1) a2
  have f1 : zFr (b + 17) 5 M (zset M1 (b + 17) (zOb 5 [.ref (b + 18), .ref (b + 19), .ref (b + 20), .ref (b + 21), .int (zi (-1))])) := zFr_trans a3 (zFr_set (by omega))
  have ew := l_50b y rm 6 0 0 (by omega) (by omega)
  rw [show zfor (fun m s => zor s (if D m = true then pw m else 0)) 6 0 0 = stP D from rfl] at ew
  have rW := stP_rng D
  have x1 := a2.2.1
  have hH : 1 ≤ v 31 ∧ v 31 ≤ 3 := by have := rv.2.2.2; omega
  by_cases cW : stP D = 0
  · refine ⟨_, e, so, fun _ => -1, fun _ => -1, -1, fun d K => ?_, y, f1, ⟨fun _ => ⟨rfl, fun _ _ _ => ⟨rfl, rfl⟩⟩, fun z => absurd cW z⟩, by omega⟩
    rw [cW] at ew
    simp (disch := omega) only [zen_50, e_50_0, e_50_1, e_50_2, e_50_3, e_50_8, e_50_9, e_50_12, e_50_13, e_50_14, e_50_15, e_50_16, e_50_19, e_50_20, e_50_21, e_50_22, e_50_25, e_50_29, e_50_30, e_50_33, e_50_34, e_50_35, e_50_36, e_50_37, e_50_38, e_50_40t, e_50_40f, e_50_43, e_50_44, e_50_45, e_50_46, e_50_49, e_50_52, e_50_53, e_50_54, e_50_55, e_50_56, e_50_59, e_50_62, e_50_63t, e_50_63f, e_50_66, e_50_67, e_50_68, e_50_69, e_50_70, e_50_73, e_50_74, e_50_75, e_50_76, e_50_79, e_50_82, e_50_83, e_50_84, e_50_85t, e_50_85f, e_50_88, e_50_89, e_50_90, e_50_91, e_50_92, e_50_93, e_50_96, e_50_99, e_50_102, e_50_103, e_50_104, e_50_105, e_50_106, e_50_109, e_50_112, e_50_113, e_50_114, e_50_115, e_50_118, e_50_121, zgf_4_4, zgf_5_2, zgf_5_3, zpf_5_4, zPa_some, zPn_some, zRK_some, zRK_none, zCk_t, zis_ob, zget_set_eq, zget_set_ne, zAld_10, zAld_11, zAst_10, zAst_11, zAlen_10, zAlen_11, zbd_t, zbd_f, zb_t, zb_f, zset_set, s_one0, s_one1, zis_so]
    rw [a1]
    simp (disch := omega) only [zen_50, e_50_0, e_50_1, e_50_2, e_50_3, e_50_8, e_50_9, e_50_12, e_50_13, e_50_14, e_50_15, e_50_16, e_50_19, e_50_20, e_50_21, e_50_22, e_50_25, e_50_28, e_50_29, e_50_30, e_50_33, e_50_34, e_50_35, e_50_36, e_50_37, e_50_38, e_50_43, e_50_44, e_50_45, e_50_46, e_50_49, e_50_52, e_50_53, e_50_54, e_50_55, e_50_56, e_50_59, e_50_63t, e_50_63f, e_50_66, e_50_67, e_50_68, e_50_69, e_50_70, e_50_73, e_50_74, e_50_75, e_50_76, e_50_79, e_50_82, e_50_83, e_50_84, e_50_85t, e_50_85f, e_50_88, e_50_89, e_50_90, e_50_91, e_50_92, e_50_93, e_50_96, e_50_99, e_50_102, e_50_103, e_50_104, e_50_105, e_50_106, e_50_109, e_50_112, e_50_113, e_50_114, e_50_115, e_50_118, e_50_121, zgf_4_4, zgf_5_2, zgf_5_3, zpf_5_4, zPa_some, zPn_some, zRK_some, zRK_none, zCk_t, zis_ob, zget_set_eq, zget_set_ne, zAld_10, zAld_11, zAst_10, zAst_11, zAlen_10, zAlen_11, zbd_t, zbd_f, zb_t, zb_f, zset_set, s_one0, s_one1, zis_so, x1]
    rw [ew (d + 10)]
    simp (disch := omega) only [zen_50, e_50_0, e_50_1, e_50_2, e_50_3, e_50_8, e_50_9, e_50_12, e_50_13, e_50_14, e_50_15, e_50_16, e_50_19, e_50_20, e_50_21, e_50_22, e_50_25, e_50_28, e_50_29, e_50_30, e_50_33, e_50_34, e_50_35, e_50_36, e_50_37, e_50_38, e_50_43, e_50_44, e_50_45, e_50_46, e_50_49, e_50_52, e_50_53, e_50_54, e_50_55, e_50_56, e_50_59, e_50_62, e_50_63t, e_50_63f, e_50_66, e_50_67, e_50_68, e_50_69, e_50_70, e_50_73, e_50_74, e_50_75, e_50_76, e_50_79, e_50_82, e_50_83, e_50_84, e_50_85t, e_50_85f, e_50_88, e_50_89, e_50_90, e_50_91, e_50_92, e_50_93, e_50_96, e_50_99, e_50_102, e_50_103, e_50_104, e_50_105, e_50_106, e_50_109, e_50_112, e_50_113, e_50_114, e_50_115, e_50_118, e_50_121, zgf_4_4, zgf_5_2, zgf_5_3, zpf_5_4, zPa_some, zPn_some, zRK_some, zRK_none, zCk_t, zis_ob, zget_set_eq, zget_set_ne, zAld_10, zAld_11, zAst_10, zAst_11, zAlen_10, zAlen_11, zbd_t, zbd_f, zb_t, zb_f, zset_set, s_one0, s_one1, zis_so]
  · have hD : ∀ m, 0 ≤ m → m < 6 → bt (stP D) m = D m := fun m h1 h2 => bt_stP ⟨h1, h2⟩
    obtain ⟨M2, e', so', b1, b2, b3, b4, b5⟩ := s_findEnds rm rW hD y
    have lo : ∀ S, 0 ≤ S → S < 64 → -1 ≤ so' S ∧ so' S ≤ 1000 := fun S h1 h2 => by
      rw [b4 S h1 h2]
      unfold soS
      split
      · omega
      · have := zfor_inv (f := fun m s => min s (e' (S * 6 + m))) (fun z => -1 ≤ z ∧ z ≤ 1000) 6 0 1000 (by omega) (fun j t j1 j2 j3 => by
          have := HKe_rng rm b3 (S := S) (m := j) (by omega)
          omega)
        exact this
    have eB := s_bestSharing b2 lo rW hH
    have cg : (fun s => DY so' (stP D) (dgS (v 31) s)) = (fun s => DY (soS e') (stP D) (dgS (v 31) s)) := funext (fun s => DY_congr b4)
    rw [cg] at eB
    have spec := fbS_spec (dy := fun s => DY (soS e') (stP D) (dgS (v 31) s)) (N := (pH (v 31)).toNat) (T := 1000)
    have pr := pH_rng hH
    obtain ⟨B, hB⟩ : ∃ B, B = (zfor (fbS (fun s => DY (soS e') (stP D) (dgS (v 31) s))) (pH (v 31)).toNat 0 (-1, 1000)).1 := ⟨_, rfl⟩
    rw [← hB] at eB
    have y12 := a2.1.1
    have z1 := y.2.1
    have z12 := y.1.1
    have w12 := b2.1.1
    have w17 := b2.2.1
    by_cases cB : B = -1
    · refine ⟨M2, e', so', fun _ => -1, fun _ => -1, -1, fun d K => ?_, b2, zFr_trans f1 b5, ⟨fun z => absurd z cW, fun _ => ⟨e', b3, B, hB, fun _ => ⟨rfl, fun _ _ _ => ⟨rfl, rfl⟩⟩, fun z => absurd cB z⟩⟩, by omega⟩
      rw [cB] at eB
      simp (disch := omega) only [zen_50, e_50_0, e_50_1, e_50_2, e_50_3, e_50_8, e_50_9, e_50_12, e_50_13, e_50_14, e_50_15, e_50_16, e_50_19, e_50_20, e_50_21, e_50_22, e_50_25, e_50_29, e_50_30, e_50_33, e_50_34, e_50_35, e_50_36, e_50_37, e_50_38, e_50_40t, e_50_40f, e_50_43, e_50_44, e_50_45, e_50_46, e_50_49, e_50_52, e_50_53, e_50_54, e_50_55, e_50_56, e_50_59, e_50_62, e_50_63t, e_50_63f, e_50_66, e_50_67, e_50_68, e_50_69, e_50_70, e_50_73, e_50_74, e_50_75, e_50_76, e_50_79, e_50_82, e_50_83, e_50_84, e_50_85t, e_50_85f, e_50_88, e_50_89, e_50_90, e_50_91, e_50_92, e_50_93, e_50_96, e_50_99, e_50_102, e_50_103, e_50_104, e_50_105, e_50_106, e_50_109, e_50_112, e_50_113, e_50_114, e_50_115, e_50_118, e_50_121, zgf_4_4, zgf_5_2, zgf_5_3, zpf_5_4, zPa_some, zPn_some, zRK_some, zRK_none, zCk_t, zis_ob, zget_set_eq, zget_set_ne, zAld_10, zAld_11, zAst_10, zAst_11, zAlen_10, zAlen_11, zbd_t, zbd_f, zb_t, zb_f, zset_set, s_one0, s_one1, zis_so]
      rw [a1]
      simp (disch := omega) only [zen_50, e_50_0, e_50_1, e_50_2, e_50_3, e_50_8, e_50_9, e_50_12, e_50_13, e_50_14, e_50_15, e_50_16, e_50_19, e_50_20, e_50_21, e_50_22, e_50_25, e_50_28, e_50_29, e_50_30, e_50_33, e_50_34, e_50_35, e_50_36, e_50_37, e_50_38, e_50_43, e_50_44, e_50_45, e_50_46, e_50_49, e_50_52, e_50_53, e_50_54, e_50_55, e_50_56, e_50_59, e_50_63t, e_50_63f, e_50_66, e_50_67, e_50_68, e_50_69, e_50_70, e_50_73, e_50_74, e_50_75, e_50_76, e_50_79, e_50_82, e_50_83, e_50_84, e_50_85t, e_50_85f, e_50_88, e_50_89, e_50_90, e_50_91, e_50_92, e_50_93, e_50_96, e_50_99, e_50_102, e_50_103, e_50_104, e_50_105, e_50_106, e_50_109, e_50_112, e_50_113, e_50_114, e_50_115, e_50_118, e_50_121, zgf_4_4, zgf_5_2, zgf_5_3, zpf_5_4, zPa_some, zPn_some, zRK_some, zRK_none, zCk_t, zis_ob, zget_set_eq, zget_set_ne, zAld_10, zAld_11, zAst_10, zAst_11, zAlen_10, zAlen_11, zbd_t, zbd_f, zb_t, zb_f, zset_set, s_one0, s_one1, zis_so, x1]
      rw [ew (d + 10)]
      simp (disch := omega) only [zen_50, e_50_0, e_50_1, e_50_2, e_50_3, e_50_8, e_50_9, e_50_12, e_50_13, e_50_14, e_50_15, e_50_16, e_50_19, e_50_20, e_50_21, e_50_22, e_50_25, e_50_28, e_50_29, e_50_30, e_50_33, e_50_34, e_50_35, e_50_36, e_50_37, e_50_38, e_50_43, e_50_44, e_50_45, e_50_46, e_50_49, e_50_52, e_50_53, e_50_54, e_50_55, e_50_56, e_50_59, e_50_62, e_50_63t, e_50_63f, e_50_66, e_50_67, e_50_68, e_50_69, e_50_70, e_50_73, e_50_74, e_50_75, e_50_76, e_50_79, e_50_82, e_50_83, e_50_84, e_50_85t, e_50_85f, e_50_88, e_50_89, e_50_90, e_50_91, e_50_92, e_50_93, e_50_96, e_50_99, e_50_102, e_50_103, e_50_104, e_50_105, e_50_106, e_50_109, e_50_112, e_50_113, e_50_114, e_50_115, e_50_118, e_50_121, zgf_4_4, zgf_5_2, zgf_5_3, zpf_5_4, zPa_some, zPn_some, zRK_some, zRK_none, zCk_t, zis_ob, zget_set_eq, zget_set_ne, zAld_10, zAld_11, zAst_10, zAst_11, zAlen_10, zAlen_11, zbd_t, zbd_f, zb_t, zb_f, zset_set, s_one0, s_one1, zis_so, z1, z12, w12, w17, b1, eB]
    · have sB : (0 ≤ B ∧ B < (pH (v 31)).toNat) ∧ DY (soS e') (stP D) (dgS (v 31) B) < 1000 := by
        rw [← hB] at spec
        rcases spec with ⟨q1, -⟩ | ⟨q1, q2, q3, -⟩
        · exact absurd q1 cB
        · exact ⟨q1, by omega⟩
      have rl : -1 ≤ DY (soS e') (stP D) (dgS (v 31) B) ∧ DY (soS e') (stP D) (dgS (v 31) B) ≤ 30 := by
        have r := fun o => stP_rng (fun m => bt (stP D) m && decide (dgS (v 31) B m = o))
        have l0 := DY_rng (W := stP D) (u := dgS (v 31) B) lo
        rw [DY_congr b4] at l0
        have t := sB.2
        have m0 := soS_rng rm b3 rW (S := ofS (stP D) (dgS (v 31) B) 0) (r 0) sub_of
        have m1 := soS_rng rm b3 rW (S := ofS (stP D) (dgS (v 31) B) 1) (r 1) sub_of
        have m2 := soS_rng rm b3 rW (S := ofS (stP D) (dgS (v 31) B) 2) (r 2) sub_of
        unfold DY at l0 t ⊢
        omega
      have ed := fun d K => s_dayOfSharing b2 lo rW hH d B K (by omega)
      rw [DY_congr b4] at ed
      have y3 := PL_lt (lt' := DY (soS e') (stP D) (dgS (v 31) B)) b2
      obtain ⟨M3, c1, c2, c3⟩ := s_readOwners y3 rW hH B (by omega)
      have how : ∀ j, 0 ≤ j → j < 6 → -1 ≤ owS (stP D) (v 31) B j ∧ owS (stP D) (v 31) B j ≤ 2 ∧ (0 ≤ owS (stP D) (v 31) B j → D j = true) := fun j j1 j2 => by
        have dr := dgS_rng (H := v 31) (s := B) (m := j) (by omega)
        unfold owS
        cases q : bt (stP D) j with
        | true =>
          rw [if_pos rfl]
          exact ⟨by omega, by omega, fun _ => by rw [← hD j j1 j2]; exact q⟩
        | false =>
          rw [if_neg (by decide)]
          exact ⟨by omega, by omega, fun z => by omega⟩
      obtain ⟨M4, st', d1, d2, d3, d4, d5⟩ := s_layOut (H := v 31) rm rl hH how c2 (fun _ _ _ => rfl)
      refine ⟨M4, e', so', _, st', _, fun d K => ?_, d2, zFr_trans f1 (zFr_trans b5 (zFr_trans (zFr_set (by omega)) (zFr_trans c3 d3))), ⟨fun z => absurd z cW, fun _ => ⟨e', b3, B, hB, fun z => absurd z cB, fun _ => ⟨rfl, fun _ _ _ => rfl, d4, fun j j1 j2 j3 => d5 j j1 j2 ?_⟩⟩⟩, rl⟩
      · have v3 := y3.1.1
        have v4 := c2.1.1
        have u3 := y3.2.1
        have u4 := c2.2.1
        simp (disch := omega) only [zen_50, e_50_0, e_50_1, e_50_2, e_50_3, e_50_8, e_50_9, e_50_12, e_50_13, e_50_14, e_50_15, e_50_16, e_50_19, e_50_20, e_50_21, e_50_22, e_50_25, e_50_29, e_50_30, e_50_33, e_50_34, e_50_35, e_50_36, e_50_37, e_50_38, e_50_40t, e_50_40f, e_50_43, e_50_44, e_50_45, e_50_46, e_50_49, e_50_52, e_50_53, e_50_54, e_50_55, e_50_56, e_50_59, e_50_62, e_50_63t, e_50_63f, e_50_66, e_50_67, e_50_68, e_50_69, e_50_70, e_50_73, e_50_74, e_50_75, e_50_76, e_50_79, e_50_82, e_50_83, e_50_84, e_50_85t, e_50_85f, e_50_88, e_50_89, e_50_90, e_50_91, e_50_92, e_50_93, e_50_96, e_50_99, e_50_102, e_50_103, e_50_104, e_50_105, e_50_106, e_50_109, e_50_112, e_50_113, e_50_114, e_50_115, e_50_118, e_50_121, zgf_4_4, zgf_5_2, zgf_5_3, zpf_5_4, zPa_some, zPn_some, zRK_some, zRK_none, zCk_t, zis_ob, zget_set_eq, zget_set_ne, zAld_10, zAld_11, zAst_10, zAst_11, zAlen_10, zAlen_11, zbd_t, zbd_f, zb_t, zb_f, zset_set, s_one0, s_one1, zis_so]
        rw [a1]
        simp (disch := omega) only [zen_50, e_50_0, e_50_1, e_50_2, e_50_3, e_50_8, e_50_9, e_50_12, e_50_13, e_50_14, e_50_15, e_50_16, e_50_19, e_50_20, e_50_21, e_50_22, e_50_25, e_50_28, e_50_29, e_50_30, e_50_33, e_50_34, e_50_35, e_50_36, e_50_37, e_50_38, e_50_43, e_50_44, e_50_45, e_50_46, e_50_49, e_50_52, e_50_53, e_50_54, e_50_55, e_50_56, e_50_59, e_50_63t, e_50_63f, e_50_66, e_50_67, e_50_68, e_50_69, e_50_70, e_50_73, e_50_74, e_50_75, e_50_76, e_50_79, e_50_82, e_50_83, e_50_84, e_50_85t, e_50_85f, e_50_88, e_50_89, e_50_90, e_50_91, e_50_92, e_50_93, e_50_96, e_50_99, e_50_102, e_50_103, e_50_104, e_50_105, e_50_106, e_50_109, e_50_112, e_50_113, e_50_114, e_50_115, e_50_118, e_50_121, zgf_4_4, zgf_5_2, zgf_5_3, zpf_5_4, zPa_some, zPn_some, zRK_some, zRK_none, zCk_t, zis_ob, zget_set_eq, zget_set_ne, zAld_10, zAld_11, zAst_10, zAst_11, zAlen_10, zAlen_11, zbd_t, zbd_f, zb_t, zb_f, zset_set, s_one0, s_one1, zis_so, x1]
        rw [ew (d + 10)]
        simp (disch := omega) only [zen_50, e_50_0, e_50_1, e_50_2, e_50_3, e_50_8, e_50_9, e_50_12, e_50_13, e_50_14, e_50_15, e_50_16, e_50_19, e_50_20, e_50_21, e_50_22, e_50_25, e_50_28, e_50_29, e_50_30, e_50_33, e_50_34, e_50_35, e_50_36, e_50_37, e_50_38, e_50_43, e_50_44, e_50_45, e_50_46, e_50_49, e_50_52, e_50_53, e_50_54, e_50_55, e_50_56, e_50_59, e_50_62, e_50_63t, e_50_63f, e_50_66, e_50_67, e_50_68, e_50_69, e_50_70, e_50_73, e_50_74, e_50_75, e_50_76, e_50_79, e_50_82, e_50_83, e_50_84, e_50_85t, e_50_85f, e_50_88, e_50_89, e_50_90, e_50_91, e_50_92, e_50_93, e_50_96, e_50_99, e_50_102, e_50_103, e_50_104, e_50_105, e_50_106, e_50_109, e_50_112, e_50_113, e_50_114, e_50_115, e_50_118, e_50_121, zgf_4_4, zgf_5_2, zgf_5_3, zpf_5_4, zPa_some, zPn_some, zRK_some, zRK_none, zCk_t, zis_ob, zget_set_eq, zget_set_ne, zAld_10, zAld_11, zAst_10, zAst_11, zAlen_10, zAlen_11, zbd_t, zbd_f, zb_t, zb_f, zset_set, s_one0, s_one1, zis_so, z1, z12, w12, w17, v3, v4, u3, u4, b1, eB, ed, c1, d1]
      · unfold owS
        rw [hD j j1 j2, j3, if_neg (by decide)]
end SOLVE
