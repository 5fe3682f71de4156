/-! land above a height; wear -/
section LAND
variable {h fu cr he re nx : Nat} {M : zM} {F C : Int → Bool} {G : Int → Int}
def f_cla (F : Int → Bool) (G : Int → Int) (to i acc : Int) : Int := if F i = false ∧ to < G i then acc + 1 else acc
theorem l_84 (hM : zget M h = some (zSo fu cr he re nx)) (hF : zget M fu = some (zAb 192 F)) (hG : zget M he = some (zA 10 192 G)) (rG : ∀ j, 0 ≤ j → j < 192 → 0 ≤ G j ∧ G j ≤ 60) : ∀ (n : Nat) (i acc to : Int), i + n = 192 → 0 ≤ i → 0 ≤ to ∧ to ≤ 2000 → ∀ (d : Nat) (K : zK), Ev (d + 1) 84 8 [some (.ref h), some (.int (zi to)), some (.int (zi acc)), some (.int (zi i))] [.int (zi 192), .int (zi i)] M K = K (some (.int (zi (zfor (f_cla F G to) n i acc)))) M := by
  unfold zSo at hM
  intro n
  induction n with
  | zero =>
    intro i acc to hi h0 ht d K
    simp (disch := omega) only [zen_84, e_84_0, e_84_1, e_84_2, e_84_3, e_84_4, e_84_5, e_84_8t, e_84_8f, e_84_11, e_84_12, e_84_13, e_84_16, e_84_17, e_84_18t, e_84_18f, e_84_21, e_84_22, e_84_25, e_84_26, e_84_27, e_84_28t, e_84_28f, e_84_31, e_84_32, e_84_35, e_84_36, e_84_39, e_84_40, e_84_41, e_84_44, e_84_47, e_84_48, zgf_6_0, zgf_6_2, zPa_some, zPn_some, zRK_some, zRK_none, zCk_t, zis_ob, zget_set_eq, zget_set_ne, zAld_10, zAld_11, zAst_10, zAst_11, zAlen_10, zAlen_11, zbd_t, zbd_f, zb_t, zb_f, zset_set, s_one0, s_one1, zis_so, hM, hF, hG, zfor_0]
  | succ n ih =>
    intro i acc to hi h0 ht d K
    have hg := rG i (by omega) (by omega)
    rw [zfor_s]
    cases hf : F i with
    | true =>
      rw [show f_cla F G to i acc = acc + 0 by simp [f_cla, hf]]
      simp (disch := omega) only [zen_84, e_84_0, e_84_1, e_84_2, e_84_3, e_84_4, e_84_5, e_84_8t, e_84_8f, e_84_11, e_84_12, e_84_13, e_84_16, e_84_17, e_84_18t, e_84_18f, e_84_21, e_84_22, e_84_25, e_84_26, e_84_27, e_84_28t, e_84_28f, e_84_31, e_84_32, e_84_35, e_84_36, e_84_39, e_84_40, e_84_41, e_84_44, e_84_47, e_84_48, zgf_6_0, zgf_6_2, zPa_some, zPn_some, zRK_some, zRK_none, zCk_t, zis_ob, zget_set_eq, zget_set_ne, zAld_10, zAld_11, zAst_10, zAst_11, zAlen_10, zAlen_11, zbd_t, zbd_f, zb_t, zb_f, zset_set, s_one0, s_one1, zis_so, hM, hF, hG, zAld_b, hf]
      exact ih _ _ _ (by omega) (by omega) ht d K
    | false =>
      by_cases hc : to < G i
      · rw [show f_cla F G to i acc = acc + 1 by simp [f_cla, hf, hc]]
        simp (disch := omega) only [zen_84, e_84_0, e_84_1, e_84_2, e_84_3, e_84_4, e_84_5, e_84_8t, e_84_8f, e_84_11, e_84_12, e_84_13, e_84_16, e_84_17, e_84_18t, e_84_18f, e_84_21, e_84_22, e_84_25, e_84_26, e_84_27, e_84_28t, e_84_28f, e_84_31, e_84_32, e_84_35, e_84_36, e_84_39, e_84_40, e_84_41, e_84_44, e_84_47, e_84_48, zgf_6_0, zgf_6_2, zPa_some, zPn_some, zRK_some, zRK_none, zCk_t, zis_ob, zget_set_eq, zget_set_ne, zAld_10, zAld_11, zAst_10, zAst_11, zAlen_10, zAlen_11, zbd_t, zbd_f, zb_t, zb_f, zset_set, s_one0, s_one1, zis_so, hM, hF, hG, zAld_b, hf]
        exact ih _ _ _ (by omega) (by omega) ht d K
      · rw [show f_cla F G to i acc = acc + 0 by simp [f_cla, hf, hc]]
        simp (disch := omega) only [zen_84, e_84_0, e_84_1, e_84_2, e_84_3, e_84_4, e_84_5, e_84_8t, e_84_8f, e_84_11, e_84_12, e_84_13, e_84_16, e_84_17, e_84_18t, e_84_18f, e_84_21, e_84_22, e_84_25, e_84_26, e_84_27, e_84_28t, e_84_28f, e_84_31, e_84_32, e_84_35, e_84_36, e_84_39, e_84_40, e_84_41, e_84_44, e_84_47, e_84_48, zgf_6_0, zgf_6_2, zPa_some, zPn_some, zRK_some, zRK_none, zCk_t, zis_ob, zget_set_eq, zget_set_ne, zAld_10, zAld_11, zAst_10, zAst_11, zAlen_10, zAlen_11, zbd_t, zbd_f, zb_t, zb_f, zset_set, s_one0, s_one1, zis_so, hM, hF, hG, zAld_b, hf]
        exact ih _ _ _ (by omega) (by omega) ht d K
theorem s_countLandAbove (hM : zget M h = some (zSo fu cr he re nx)) (hF : zget M fu = some (zAb 192 F)) (hG : zget M he = some (zA 10 192 G)) (rG : ∀ j, 0 ≤ j → j < 192 → 0 ≤ G j ∧ G j ≤ 60) : ∀ (d : Nat) (to : Int) (K : zK), 0 ≤ to ∧ to ≤ 2000 → zC (d + 2) 84 [.ref h, .int (zi to)] M K = K (some (.int (zi (zfor (f_cla F G to) 192 0 0)))) M := by
  intro d to K ht
  simp (disch := omega) only [zen_84, e_84_0, e_84_1, e_84_2, e_84_3, e_84_4, e_84_5, e_84_11, e_84_12, e_84_13, e_84_16, e_84_17, e_84_18t, e_84_18f, e_84_21, e_84_22, e_84_25, e_84_26, e_84_27, e_84_28t, e_84_28f, e_84_31, e_84_32, e_84_35, e_84_36, e_84_39, e_84_40, e_84_41, e_84_44, e_84_47, e_84_48, zgf_6_0, zgf_6_2, zPa_some, zPn_some, zRK_some, zRK_none, zCk_t, zis_ob, zget_set_eq, zget_set_ne, zAld_10, zAld_11, zAst_10, zAst_11, zAlen_10, zAlen_11, zbd_t, zbd_f, zb_t, zb_f, zset_set, s_one0, s_one1, zis_so]
  exact l_84 hM hF hG rG 192 0 0 to (by omega) (by omega) ht d K
def f_sla (F : Int → Bool) (G : Int → Int) (to i acc : Int) : Int := if F i = false ∧ to < G i then acc + (G i - to) else acc
theorem l_85 (hM : zget M h = some (zSo fu cr he re nx)) (hF : zget M fu = some (zAb 192 F)) (hG : zget M he = some (zA 10 192 G)) (rG : ∀ j, 0 ≤ j → j < 192 → 0 ≤ G j ∧ G j ≤ 60) : ∀ (n : Nat) (i acc to : Int), i + n = 192 → 0 ≤ i → 0 ≤ to ∧ to ≤ 2000 → ∀ (d : Nat) (K : zK), Ev d 85 8 [some (.ref h), some (.int (zi to)), some (.int (zi acc)), some (.int (zi i))] [.int (zi 192), .int (zi i)] M K = K (some (.int (zi (zfor (f_sla F G to) n i acc)))) M := by
  unfold zSo at hM
  intro n
  induction n with
  | zero =>
    intro i acc to hi h0 ht d K
    simp (disch := omega) only [zen_85, e_85_0, e_85_1, e_85_2, e_85_3, e_85_4, e_85_5, e_85_8t, e_85_8f, e_85_11, e_85_12, e_85_15, e_85_16, e_85_17t, e_85_17f, e_85_20, e_85_21, e_85_24, e_85_25, e_85_26, e_85_27t, e_85_27f, e_85_30, e_85_31, e_85_32, e_85_35, e_85_36, e_85_37, e_85_38, e_85_39, e_85_40, e_85_41, e_85_44, e_85_47, e_85_48, zgf_6_0, zgf_6_2, zPa_some, zPn_some, zRK_some, zRK_none, zCk_t, zis_ob, zget_set_eq, zget_set_ne, zAld_10, zAld_11, zAst_10, zAst_11, zAlen_10, zAlen_11, zbd_t, zbd_f, zb_t, zb_f, zset_set, s_one0, s_one1, zis_so, hM, hF, hG, zfor_0]
  | succ n ih =>
    intro i acc to hi h0 ht d K
    have hg := rG i (by omega) (by omega)
    rw [zfor_s]
    cases hf : F i with
    | true =>
      rw [show f_sla F G to i acc = acc by simp [f_sla, hf]]
      simp (disch := omega) only [zen_85, e_85_0, e_85_1, e_85_2, e_85_3, e_85_4, e_85_5, e_85_8t, e_85_8f, e_85_11, e_85_12, e_85_15, e_85_16, e_85_17t, e_85_17f, e_85_20, e_85_21, e_85_24, e_85_25, e_85_26, e_85_27t, e_85_27f, e_85_30, e_85_31, e_85_32, e_85_35, e_85_36, e_85_37, e_85_38, e_85_39, e_85_40, e_85_41, e_85_44, e_85_47, e_85_48, zgf_6_0, zgf_6_2, zPa_some, zPn_some, zRK_some, zRK_none, zCk_t, zis_ob, zget_set_eq, zget_set_ne, zAld_10, zAld_11, zAst_10, zAst_11, zAlen_10, zAlen_11, zbd_t, zbd_f, zb_t, zb_f, zset_set, s_one0, s_one1, zis_so, hM, hF, hG, zAld_b, hf]
      exact ih _ _ _ (by omega) (by omega) ht d K
    | false =>
      by_cases hc : to < G i
      · rw [show f_sla F G to i acc = acc + (G i - to) by simp [f_sla, hf, hc]]
        simp (disch := omega) only [zen_85, e_85_0, e_85_1, e_85_2, e_85_3, e_85_4, e_85_5, e_85_8t, e_85_8f, e_85_11, e_85_12, e_85_15, e_85_16, e_85_17t, e_85_17f, e_85_20, e_85_21, e_85_24, e_85_25, e_85_26, e_85_27t, e_85_27f, e_85_30, e_85_31, e_85_32, e_85_35, e_85_36, e_85_37, e_85_38, e_85_39, e_85_40, e_85_41, e_85_44, e_85_47, e_85_48, zgf_6_0, zgf_6_2, zPa_some, zPn_some, zRK_some, zRK_none, zCk_t, zis_ob, zget_set_eq, zget_set_ne, zAld_10, zAld_11, zAst_10, zAst_11, zAlen_10, zAlen_11, zbd_t, zbd_f, zb_t, zb_f, zset_set, s_one0, s_one1, zis_so, hM, hF, hG, zAld_b, hf]
        exact ih _ _ _ (by omega) (by omega) ht d K
      · rw [show f_sla F G to i acc = acc by simp [f_sla, hf, hc]]
        simp (disch := omega) only [zen_85, e_85_0, e_85_1, e_85_2, e_85_3, e_85_4, e_85_5, e_85_8t, e_85_8f, e_85_11, e_85_12, e_85_15, e_85_16, e_85_17t, e_85_17f, e_85_20, e_85_21, e_85_24, e_85_25, e_85_26, e_85_27t, e_85_27f, e_85_30, e_85_31, e_85_32, e_85_35, e_85_36, e_85_37, e_85_38, e_85_39, e_85_40, e_85_41, e_85_44, e_85_47, e_85_48, zgf_6_0, zgf_6_2, zPa_some, zPn_some, zRK_some, zRK_none, zCk_t, zis_ob, zget_set_eq, zget_set_ne, zAld_10, zAld_11, zAst_10, zAst_11, zAlen_10, zAlen_11, zbd_t, zbd_f, zb_t, zb_f, zset_set, s_one0, s_one1, zis_so, hM, hF, hG, zAld_b, hf]
        exact ih _ _ _ (by omega) (by omega) ht d K
theorem s_sumLandAbove (hM : zget M h = some (zSo fu cr he re nx)) (hF : zget M fu = some (zAb 192 F)) (hG : zget M he = some (zA 10 192 G)) (rG : ∀ j, 0 ≤ j → j < 192 → 0 ≤ G j ∧ G j ≤ 60) : ∀ (d : Nat) (to : Int) (K : zK), 0 ≤ to ∧ to ≤ 2000 → zC (d + 1) 85 [.ref h, .int (zi to)] M K = K (some (.int (zi (zfor (f_sla F G to) 192 0 0)))) M := by
  intro d to K ht
  simp (disch := omega) only [zen_85, e_85_0, e_85_1, e_85_2, e_85_3, e_85_4, e_85_5, e_85_11, e_85_12, e_85_15, e_85_16, e_85_17t, e_85_17f, e_85_20, e_85_21, e_85_24, e_85_25, e_85_26, e_85_27t, e_85_27f, e_85_30, e_85_31, e_85_32, e_85_35, e_85_36, e_85_37, e_85_38, e_85_39, e_85_40, e_85_41, e_85_44, e_85_47, e_85_48, zgf_6_0, zgf_6_2, zPa_some, zPn_some, zRK_some, zRK_none, zCk_t, zis_ob, zget_set_eq, zget_set_ne, zAld_10, zAld_11, zAst_10, zAst_11, zAlen_10, zAlen_11, zbd_t, zbd_f, zb_t, zb_f, zset_set, s_one0, s_one1, zis_so]
  exact l_85 hM hF hG rG 192 0 0 to (by omega) (by omega) ht d K
/-- heights, all land above 'to' from i on cut to it -/
def gcut (F : Int → Bool) (G : Int → Int) (to i0 : Int) : Int → Int := fun j => if i0 ≤ j ∧ j < 192 ∧ F j = false ∧ to < G j then to else G j
theorem gcut_skip {to i : Int} (hc : F i = true ∨ ¬ to < G i) : gcut F G to i = gcut F G to (i + 1) := by
  funext j
  unfold gcut
  by_cases hj : j = i
  · subst hj
    rw [if_neg (fun q => by rcases hc with q1 | q1; · rw [q.2.2.1] at q1; cases q1
                            · exact q1 q.2.2.2), if_neg (fun q => by omega)]
  · simp only [show (i ≤ j) ↔ (i + 1 ≤ j) from by omega]
theorem gcut_set {to i : Int} (h1 : i < 192) (h2 : F i = false) (h3 : to < G i) : gcut F G to i = gcut F (zu G i to) to (i + 1) := by
  funext j
  unfold gcut zu
  by_cases hj : j = i
  · subst hj
    rw [if_pos ⟨by omega, h1, h2, h3⟩, if_neg (fun q => by omega), if_pos rfl]
  · simp only [hj, if_false, show (i ≤ j) ↔ (i + 1 ≤ j) from by omega]
theorem l_86 (hne : he ≠ fu ∧ he ≠ h) (hM : zget M h = some (zSo fu cr he re nx)) (hF : zget M fu = some (zAb 192 F)) : ∀ (n : Nat) (i to : Int) (G : Int → Int), (∀ j, 0 ≤ j → j < 192 → 0 ≤ G j ∧ G j ≤ 60) → i + n = 192 → 0 ≤ i → 0 ≤ to ∧ to ≤ 2000 → ∀ (d : Nat) (K : zK), Ev d 86 6 [some (.ref h), some (.int (zi to)), some (.int (zi i))] [.int (zi 192), .int (zi i)] (zset M he (zA 10 192 G)) K = K none (zset M he (zA 10 192 (gcut F G to i))) := by
  unfold zSo at hM
  intro n
  induction n with
  | zero =>
    intro i to G rG hi h0 ht d K
    simp (disch := omega) only [zen_86, e_86_0, e_86_1, e_86_2, e_86_3, e_86_6t, e_86_6f, e_86_9, e_86_10, e_86_13, e_86_14, e_86_15t, e_86_15f, e_86_18, e_86_19, e_86_22, e_86_23, e_86_24, e_86_25t, e_86_25f, e_86_28, e_86_29, e_86_32, e_86_33, e_86_34, e_86_35, e_86_38, e_86_41, zgf_6_0, zgf_6_2, zPa_some, zPn_some, zRK_some, zRK_none, zCk_t, zis_ob, zget_set_eq, zget_set_ne, zAld_10, zAld_11, zAst_10, zAst_11, zAlen_10, zAlen_11, zbd_t, zbd_f, zb_t, zb_f, zset_set, s_one0, s_one1, zis_so, hM, hF]
    rw [show gcut F G to i = G by funext j; unfold gcut; rw [if_neg (fun q => by omega)]]
  | succ n ih =>
    intro i to G rG hi h0 ht d K
    have hg := rG i (by omega) (by omega)
    cases hf : F i with
    | true =>
      rw [gcut_skip (Or.inl hf)]
      simp (disch := omega) only [zen_86, e_86_0, e_86_1, e_86_2, e_86_3, e_86_6t, e_86_6f, e_86_9, e_86_10, e_86_13, e_86_14, e_86_15t, e_86_15f, e_86_18, e_86_19, e_86_22, e_86_23, e_86_24, e_86_25t, e_86_25f, e_86_28, e_86_29, e_86_32, e_86_33, e_86_34, e_86_35, e_86_38, e_86_41, zgf_6_0, zgf_6_2, zPa_some, zPn_some, zRK_some, zRK_none, zCk_t, zis_ob, zget_set_eq, zget_set_ne, zAld_10, zAld_11, zAst_10, zAst_11, zAlen_10, zAlen_11, zbd_t, zbd_f, zb_t, zb_f, zset_set, s_one0, s_one1, zis_so, hM, hF, zAld_b, hf]
      exact ih _ _ _ rG (by omega) (by omega) ht d K
    | false =>
      by_cases hc : to < G i
      · rw [gcut_set (by omega) hf hc]
        simp (disch := omega) only [zen_86, e_86_0, e_86_1, e_86_2, e_86_3, e_86_6t, e_86_6f, e_86_9, e_86_10, e_86_13, e_86_14, e_86_15t, e_86_15f, e_86_18, e_86_19, e_86_22, e_86_23, e_86_24, e_86_25t, e_86_25f, e_86_28, e_86_29, e_86_32, e_86_33, e_86_34, e_86_35, e_86_38, e_86_41, zgf_6_0, zgf_6_2, zPa_some, zPn_some, zRK_some, zRK_none, zCk_t, zis_ob, zget_set_eq, zget_set_ne, zAld_10, zAld_11, zAst_10, zAst_11, zAlen_10, zAlen_11, zbd_t, zbd_f, zb_t, zb_f, zset_set, s_one0, s_one1, zis_so, hM, hF, zAld_b, hf]
        refine ih _ _ _ (fun j h1 h2 => ?_) (by omega) (by omega) ht d K
        unfold zu
        have := rG j h1 h2
        by_cases hj : j = i
        · rw [if_pos hj]; omega
        · rw [if_neg hj]; exact this
      · rw [gcut_skip (Or.inr hc)]
        simp (disch := omega) only [zen_86, e_86_0, e_86_1, e_86_2, e_86_3, e_86_6t, e_86_6f, e_86_9, e_86_10, e_86_13, e_86_14, e_86_15t, e_86_15f, e_86_18, e_86_19, e_86_22, e_86_23, e_86_24, e_86_25t, e_86_25f, e_86_28, e_86_29, e_86_32, e_86_33, e_86_34, e_86_35, e_86_38, e_86_41, zgf_6_0, zgf_6_2, zPa_some, zPn_some, zRK_some, zRK_none, zCk_t, zis_ob, zget_set_eq, zget_set_ne, zAld_10, zAld_11, zAst_10, zAst_11, zAlen_10, zAlen_11, zbd_t, zbd_f, zb_t, zb_f, zset_set, s_one0, s_one1, zis_so, hM, hF, zAld_b, hf]
        exact ih _ _ _ rG (by omega) (by omega) ht d K
theorem s_cutLandTo (hne : he ≠ fu ∧ he ≠ h) (hM : zget M h = some (zSo fu cr he re nx)) (hF : zget M fu = some (zAb 192 F)) (hG : zget M he = some (zA 10 192 G)) (rG : ∀ j, 0 ≤ j → j < 192 → 0 ≤ G j ∧ G j ≤ 60) : ∀ (d : Nat) (to : Int) (K : zK), 0 ≤ to ∧ to ≤ 2000 → zC (d + 1) 86 [.ref h, .int (zi to)] M K = K none (zset M he (zA 10 192 (gcut F G to 0))) := by
  intro d to K ht
  simp (disch := omega) only [zen_86, e_86_0, e_86_1, e_86_2, e_86_3, e_86_9, e_86_10, e_86_13, e_86_14, e_86_15t, e_86_15f, e_86_18, e_86_19, e_86_22, e_86_23, e_86_24, e_86_25t, e_86_25f, e_86_28, e_86_29, e_86_32, e_86_33, e_86_34, e_86_35, e_86_38, e_86_41, zgf_6_0, zgf_6_2, zPa_some, zPn_some, zRK_some, zRK_none, zCk_t, zis_ob, zget_set_eq, zget_set_ne, zAld_10, zAld_11, zAst_10, zAst_11, zAlen_10, zAlen_11, zbd_t, zbd_f, zb_t, zb_f, zset_set, s_one0, s_one1, zis_so]
  have := l_86 hne hM hF 192 0 to G rG (by omega) (by omega) ht d K
  rw [zset_same hG] at this
  exact this
/-- a ring has land -/
theorem l_78 (hM : zget M h = some (zSo fu cr he re nx)) (hF : zget M fu = some (zAb 192 F)) : ∀ (n : Nat) (i r : Int), i + n = 24 → 0 ≤ i → 0 ≤ r ∧ r ≤ 7 → ∃ b : Bool, (b = true ↔ ∃ a, i ≤ a ∧ a < 24 ∧ F (r * 24 + a) = false) ∧ ∀ (d : Nat) (K : zK), Ev (d + 4) 78 5 [some (.ref h), some (.int (zi r)), some (.int (zi i))] [.int (zi 24), .int (zi i)] M K = K (some (.int (zi (zb b)))) M := by
  intro n
  induction n with
  | zero =>
    intro i r hi h0 hr
    refine ⟨false, ⟨fun q => (by cases q), fun q => (by obtain ⟨a, h1, h2, -⟩ := q; omega)⟩, fun d K => ?_⟩
    simp (disch := omega) only [zen_78, e_78_0, e_78_1, e_78_2, e_78_3, e_78_5t, e_78_5f, e_78_8, e_78_9, e_78_10, e_78_11, e_78_14t, e_78_14f, e_78_17, e_78_18, e_78_19, e_78_22, e_78_25, e_78_26, zPa_some, zPn_some, zRK_some, zRK_none, zCk_t, zis_ob, zget_set_eq, zget_set_ne, zAld_10, zAld_11, zAst_10, zAst_11, zAlen_10, zAlen_11, zbd_t, zbd_f, zb_t, zb_f, zset_set, s_one0, s_one1, zis_so]
  | succ n ih =>
    intro i r hi h0 hr
    have e : i % 24 = i := by omega
    have hL := s_isLand hM hF
    cases hf : F (r * 24 + i) with
    | false =>
      refine ⟨true, ⟨fun _ => ⟨i, by omega, by omega, hf⟩, fun _ => rfl⟩, fun d K => ?_⟩
      simp (disch := omega) only [zen_78, e_78_0, e_78_1, e_78_2, e_78_3, e_78_5t, e_78_5f, e_78_8, e_78_9, e_78_10, e_78_11, e_78_14t, e_78_14f, e_78_17, e_78_18, e_78_19, e_78_22, e_78_25, e_78_26, zPa_some, zPn_some, zRK_some, zRK_none, zCk_t, zis_ob, zget_set_eq, zget_set_ne, zAld_10, zAld_11, zAst_10, zAst_11, zAlen_10, zAlen_11, zbd_t, zbd_f, zb_t, zb_f, zset_set, s_one0, s_one1, zis_so, hM, hL, e, hf, Bool.not_false]
    | true =>
      obtain ⟨b, hb, hk⟩ := ih (i + 1) r (by omega) (by omega) hr
      refine ⟨b, ⟨fun q => ?_, fun q => hb.mpr ?_⟩, fun d K => ?_⟩
      · obtain ⟨a, h1, h2, h3⟩ := hb.mp q; exact ⟨a, by omega, h2, h3⟩
      · obtain ⟨a, h1, h2, h3⟩ := q
        by_cases ha : a = i
        · subst ha; rw [hf] at h3; cases h3
        · exact ⟨a, by omega, h2, h3⟩
      · simp (disch := omega) only [zen_78, e_78_0, e_78_1, e_78_2, e_78_3, e_78_5t, e_78_5f, e_78_8, e_78_9, e_78_10, e_78_11, e_78_14t, e_78_14f, e_78_17, e_78_18, e_78_19, e_78_22, e_78_25, e_78_26, zPa_some, zPn_some, zRK_some, zRK_none, zCk_t, zis_ob, zget_set_eq, zget_set_ne, zAld_10, zAld_11, zAst_10, zAst_11, zAlen_10, zAlen_11, zbd_t, zbd_f, zb_t, zb_f, zset_set, s_one0, s_one1, zis_so, hM, hL, e, hf, Bool.not_true]
        exact hk d K
theorem s_hasLand (hM : zget M h = some (zSo fu cr he re nx)) (hF : zget M fu = some (zAb 192 F)) (r : Int) (hr : 0 ≤ r ∧ r ≤ 7) : ∃ b : Bool, (b = true ↔ ∃ a, 0 ≤ a ∧ a < 24 ∧ F (r * 24 + a) = false) ∧ ∀ (d : Nat) (K : zK), zC (d + 5) 78 [.ref h, .int (zi r)] M K = K (some (.int (zi (zb b)))) M := by
  obtain ⟨b, hb, hk⟩ := l_78 hM hF 24 0 r (by omega) (by omega) hr
  refine ⟨b, hb, fun d K => ?_⟩
  simp (disch := omega) only [zen_78, e_78_0, e_78_1, e_78_2, e_78_3, e_78_8, e_78_9, e_78_10, e_78_11, e_78_14t, e_78_14f, e_78_17, e_78_18, e_78_19, e_78_22, e_78_25, e_78_26, zPa_some, zPn_some, zRK_some, zRK_none, zCk_t, zis_ob, zget_set_eq, zget_set_ne, zAld_10, zAld_11, zAst_10, zAst_11, zAlen_10, zAlen_11, zbd_t, zbd_f, zb_t, zb_f, zset_set, s_one0, s_one1, zis_so]
  exact hk d K
end LAND
