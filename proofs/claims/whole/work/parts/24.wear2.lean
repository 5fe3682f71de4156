/-! wear, the writes -/
def wst (F C : Int → Bool) (G : Int → Int) (top s : Int) : Int := if F s = false ∧ G s = top then G s - min (if C s = true then 2 else 1) (G s) else G s
def gwear (F C : Int → Bool) (G : Int → Int) (top lo hi : Int) : Int → Int := fun s => if lo ≤ s ∧ s < hi then wst F C G top s else G s
def f_wl (F C : Int → Bool) (G : Int → Int) (top s acc : Int) : Int := if F s = false ∧ G s = top then acc + min (if C s = true then 2 else 1) (G s) else acc
def gwA (F2 F C : Int → Bool) (G : Int → Int) (top r : Int) : Int → Int := fun s => if r * 24 ≤ s ∧ s < 192 ∧ grd F2 (s / 24) = true then wst F C G top s else G s
def f_wA (F2 F C : Int → Bool) (G : Int → Int) (top s acc : Int) : Int := if grd F2 (s / 24) = true then f_wl F C G top s acc else acc
theorem wst_rng {F C : Int → Bool} {G : Int → Int} {top s : Int} (h : 0 ≤ G s ∧ G s ≤ 60) : 0 ≤ wst F C G top s ∧ wst F C G top s ≤ 60 := by
  unfold wst
  split
  · split <;> omega
  · exact h
theorem wst_ext {F C : Int → Bool} {G G1 : Int → Int} {top s : Int} (h : G1 s = G s) : wst F C G1 top s = wst F C G top s := by
  unfold wst; rw [h]
theorem f_wl_ext {F C : Int → Bool} {G G1 : Int → Int} {top s acc : Int} (h : G1 s = G s) : f_wl F C G1 top s acc = f_wl F C G top s acc := by
  unfold f_wl; rw [h]
theorem gwear_none {F C : Int → Bool} {G : Int → Int} {top lo hi : Int} (h : hi ≤ lo) : gwear F C G top lo hi = G := by
  funext s; unfold gwear; rw [if_neg (by omega)]
theorem gwear_step {F C : Int → Bool} {G : Int → Int} {top lo hi : Int} (h : lo < hi) : gwear F C G top lo hi = gwear F C (zu G lo (wst F C G top lo)) top (lo + 1) hi := by
  funext s
  unfold gwear
  by_cases hs : s = lo
  · subst hs
    rw [if_pos (by omega), if_neg (by omega)]
    unfold zu; rw [if_pos rfl]
  · have e : zu G lo (wst F C G top lo) s = G s := by unfold zu; rw [if_neg hs]
    rw [wst_ext e, e]
    by_cases c : lo ≤ s ∧ s < hi
    · rw [if_pos c, if_pos (by omega)]
    · rw [if_neg c, if_neg (by omega)]
theorem gwear_same {F C : Int → Bool} {G : Int → Int} {top lo hi : Int} (h : wst F C G top lo = G lo) : gwear F C G top lo hi = gwear F C G top (lo + 1) hi := by
  funext s
  unfold gwear
  by_cases hs : s = lo
  · subst hs
    rw [if_neg (show ¬ (s + 1 ≤ s ∧ s < hi) by omega), h]
    split <;> rfl
  · by_cases c : lo ≤ s ∧ s < hi
    · rw [if_pos c, if_pos (by omega)]
    · rw [if_neg c, if_neg (by omega)]
section WEAR2
variable {h fu cr he re nx h2 fu2 cr2 he2 re2 nx2 : Nat} {F C F2 : Int → Bool}
theorem l_81 (hne : h ≠ he ∧ fu ≠ he ∧ cr ≠ he) : ∀ (n : Nat) (a r top acc : Int) (G : Int → Int) (M : zM), zget M h = some (zSo fu cr he re nx) → zget M fu = some (zAb 192 F) → zget M cr = some (zAb 192 C) → zget M he = some (zA 10 192 G) → (∀ j, 0 ≤ j → j < 192 → 0 ≤ G j ∧ G j ≤ 60) → a + n = 24 → 0 ≤ a → 0 ≤ r ∧ r ≤ 7 → 0 ≤ top ∧ top ≤ 60 → ∀ (d : Nat) (K : zK), Ev (d + 4) 81 9 [some (.ref h), some (.int (zi r)), some (.int (zi top)), some (.int (zi acc)), some (.int (zi a))] [.int (zi 24), .int (zi a)] M K = K (some (.int (zi (zfor (f_wl F C G top) n (r * 24 + a) acc)))) (zset M he (zA 10 192 (gwear F C G top (r * 24 + a) (r * 24 + 24)))) := by
  intro n
  induction n with
  | zero =>
    intro a r top acc G M hM hF hC hG rG ha h0 hr ht d K
    rw [zfor_0, gwear_none (by omega), zset_same hG]
    simp (disch := omega) only [zen_81, e_81_0, e_81_1, e_81_2, e_81_3, e_81_5, e_81_7, e_81_9t, e_81_9f, e_81_12, e_81_13, e_81_14, e_81_16, e_81_19t, e_81_19f, e_81_22, e_81_23, e_81_24, e_81_26, e_81_29, e_81_30t, e_81_30f, e_81_33, e_81_34, e_81_35, e_81_36, e_81_38, e_81_39, e_81_40, e_81_42, e_81_45t, e_81_45f, e_81_48, e_81_49, e_81_52, e_81_53, e_81_56, e_81_57, e_81_58, e_81_61, e_81_64, e_81_65, zPa_some, zPn_some, zRK_some, zRK_none, zCk_t, zis_ob, zget_set_eq, zget_set_ne, zAld_10, zAld_11, zAst_10, zAst_11, zAlen_10, zAlen_11, zbd_t, zbd_f, zb_t, zb_f, zset_set, s_one0, s_one1, zis_so]
  | succ n ih =>
    intro a r top acc G M hM hF hC hG rG ha h0 hr ht d K
    have hL := s_isLand hM hF
    have hH := s_heightAt hM hG
    have hK := s_isCracked hM hC
    have hW := s_lower hM hG rG
    have hg2 := rG (r * 24 + a) (by omega) (by omega)
    have e : a % 24 = a := by omega
    have e3 : r * 24 + a + 1 = r * 24 + (a + 1) := by omega
    rw [zfor_s]
    cases hf : F (r * 24 + a) with
    | true =>
      rw [show f_wl F C G top (r * 24 + a) acc = acc by simp [f_wl, hf], gwear_same (by simp [wst, hf]), e3]
      simp (disch := omega) only [zen_81, e_81_0, e_81_1, e_81_2, e_81_3, e_81_5, e_81_7, e_81_9t, e_81_9f, e_81_12, e_81_13, e_81_14, e_81_16, e_81_19t, e_81_19f, e_81_22, e_81_23, e_81_24, e_81_26, e_81_29, e_81_30t, e_81_30f, e_81_33, e_81_34, e_81_35, e_81_36, e_81_38, e_81_39, e_81_40, e_81_42, e_81_45t, e_81_45f, e_81_48, e_81_49, e_81_52, e_81_53, e_81_56, e_81_57, e_81_58, e_81_61, e_81_64, e_81_65, zPa_some, zPn_some, zRK_some, zRK_none, zCk_t, zis_ob, zget_set_eq, zget_set_ne, zAld_10, zAld_11, zAst_10, zAst_11, zAlen_10, zAlen_11, zbd_t, zbd_f, zb_t, zb_f, zset_set, s_one0, s_one1, zis_so, hM, hL, hH, e, hf, Bool.not_true]
      exact ih _ _ _ _ _ _ hM hF hC hG rG (by omega) (by omega) hr ht d K
    | false =>
      by_cases hc : G (r * 24 + a) = top
      · have key : ∀ x : Int, (if C (r * 24 + a) = true then 2 else 1) = x → zfor (f_wl F C G top) n (r * 24 + a + 1) (f_wl F C G top (r * 24 + a) acc) = zfor (f_wl F C (zu G (r * 24 + a) (G (r * 24 + a) - min x (G (r * 24 + a)))) top) n (r * 24 + (a + 1)) (acc + min x (G (r * 24 + a))) ∧ gwear F C G top (r * 24 + a) (r * 24 + 24) = gwear F C (zu G (r * 24 + a) (G (r * 24 + a) - min x (G (r * 24 + a)))) top (r * 24 + (a + 1)) (r * 24 + 24) := by
          intro x hx
          constructor
          · rw [show f_wl F C G top (r * 24 + a) acc = acc + min x (G (r * 24 + a)) by unfold f_wl; rw [if_pos ⟨hf, hc⟩, hx], e3]
            exact zfor_congr n _ _ (fun j t h1 h2 => (f_wl_ext (by unfold zu; rw [if_neg (by omega)])).symm)
          · rw [gwear_step (by omega), e3]
            rw [show wst F C G top (r * 24 + a) = G (r * 24 + a) - min x (G (r * 24 + a)) by unfold wst; rw [if_pos ⟨hf, hc⟩, hx]]
        have rG1 : ∀ x : Int, 0 ≤ x → ∀ j, 0 ≤ j → j < 192 → 0 ≤ zu G (r * 24 + a) (G (r * 24 + a) - min x (G (r * 24 + a))) j ∧ zu G (r * 24 + a) (G (r * 24 + a) - min x (G (r * 24 + a))) j ≤ 60 := by
          intro x hx j h1 h2
          have := rG j h1 h2
          unfold zu
          split <;> omega
        cases hk : C (r * 24 + a) with
        | true =>
          obtain ⟨k1, k2⟩ := key 2 (by rw [hk]; rfl)
          rw [k1, k2]
          simp (disch := omega) only [zen_81, e_81_0, e_81_1, e_81_2, e_81_3, e_81_5, e_81_7, e_81_9t, e_81_9f, e_81_12, e_81_13, e_81_14, e_81_16, e_81_19t, e_81_19f, e_81_22, e_81_23, e_81_24, e_81_26, e_81_29, e_81_30t, e_81_30f, e_81_33, e_81_34, e_81_35, e_81_36, e_81_38, e_81_39, e_81_40, e_81_42, e_81_45t, e_81_45f, e_81_48, e_81_49, e_81_52, e_81_53, e_81_56, e_81_57, e_81_58, e_81_61, e_81_64, e_81_65, zPa_some, zPn_some, zRK_some, zRK_none, zCk_t, zis_ob, zget_set_eq, zget_set_ne, zAld_10, zAld_11, zAst_10, zAst_11, zAlen_10, zAlen_11, zbd_t, zbd_f, zb_t, zb_f, zset_set, s_one0, s_one1, zis_so, hM, hL, hH, hK, hW, e, hf, hk, Bool.not_false]
          have := ih (a + 1) r top (acc + min 2 (G (r * 24 + a))) _ _ ((zget_set_ne hne.1).trans hM) ((zget_set_ne hne.2.1).trans hF) ((zget_set_ne hne.2.2).trans hC) zget_set_eq (rG1 2 (by omega)) (by omega) (by omega) hr ht d K
          rw [zset_set] at this
          exact this
        | false =>
          obtain ⟨k1, k2⟩ := key 1 (by rw [hk]; rfl)
          rw [k1, k2]
          simp (disch := omega) only [zen_81, e_81_0, e_81_1, e_81_2, e_81_3, e_81_5, e_81_7, e_81_9t, e_81_9f, e_81_12, e_81_13, e_81_14, e_81_16, e_81_19t, e_81_19f, e_81_22, e_81_23, e_81_24, e_81_26, e_81_29, e_81_30t, e_81_30f, e_81_33, e_81_34, e_81_35, e_81_36, e_81_38, e_81_39, e_81_40, e_81_42, e_81_45t, e_81_45f, e_81_48, e_81_49, e_81_52, e_81_53, e_81_56, e_81_57, e_81_58, e_81_61, e_81_64, e_81_65, zPa_some, zPn_some, zRK_some, zRK_none, zCk_t, zis_ob, zget_set_eq, zget_set_ne, zAld_10, zAld_11, zAst_10, zAst_11, zAlen_10, zAlen_11, zbd_t, zbd_f, zb_t, zb_f, zset_set, s_one0, s_one1, zis_so, hM, hL, hH, hK, hW, e, hf, hk, Bool.not_false]
          have := ih (a + 1) r top (acc + min 1 (G (r * 24 + a))) _ _ ((zget_set_ne hne.1).trans hM) ((zget_set_ne hne.2.1).trans hF) ((zget_set_ne hne.2.2).trans hC) zget_set_eq (rG1 1 (by omega)) (by omega) (by omega) hr ht d K
          rw [zset_set] at this
          exact this
      · rw [show f_wl F C G top (r * 24 + a) acc = acc by simp [f_wl, hc], gwear_same (by simp [wst, hc]), e3]
        simp (disch := omega) only [zen_81, e_81_0, e_81_1, e_81_2, e_81_3, e_81_5, e_81_7, e_81_9t, e_81_9f, e_81_12, e_81_13, e_81_14, e_81_16, e_81_19t, e_81_19f, e_81_22, e_81_23, e_81_24, e_81_26, e_81_29, e_81_30t, e_81_30f, e_81_33, e_81_34, e_81_35, e_81_36, e_81_38, e_81_39, e_81_40, e_81_42, e_81_45t, e_81_45f, e_81_48, e_81_49, e_81_52, e_81_53, e_81_56, e_81_57, e_81_58, e_81_61, e_81_64, e_81_65, zPa_some, zPn_some, zRK_some, zRK_none, zCk_t, zis_ob, zget_set_eq, zget_set_ne, zAld_10, zAld_11, zAst_10, zAst_11, zAlen_10, zAlen_11, zbd_t, zbd_f, zb_t, zb_f, zset_set, s_one0, s_one1, zis_so, hM, hL, hH, e, hf, Bool.not_false]
        exact ih _ _ _ _ _ _ hM hF hC hG rG (by omega) (by omega) hr ht d K
theorem s_wearRing (hne : h ≠ he ∧ fu ≠ he ∧ cr ≠ he) {G : Int → Int} {M : zM} (hM : zget M h = some (zSo fu cr he re nx)) (hF : zget M fu = some (zAb 192 F)) (hC : zget M cr = some (zAb 192 C)) (hG : zget M he = some (zA 10 192 G)) (rG : ∀ j, 0 ≤ j → j < 192 → 0 ≤ G j ∧ G j ≤ 60) : ∀ (d : Nat) (r top : Int) (K : zK), (0 ≤ r ∧ r ≤ 7 ∧ 0 ≤ top ∧ top ≤ 60) → zC (d + 5) 81 [.ref h, .int (zi r), .int (zi top)] M K = K (some (.int (zi (zfor (f_wl F C G top) 24 (r * 24) 0)))) (zset M he (zA 10 192 (gwear F C G top (r * 24) (r * 24 + 24)))) := by
  intro d r top K hr
  simp (disch := omega) only [zen_81, e_81_0, e_81_1, e_81_2, e_81_3, e_81_5, e_81_7, e_81_12, e_81_13, e_81_14, e_81_16, e_81_19t, e_81_19f, e_81_22, e_81_23, e_81_24, e_81_26, e_81_29, e_81_30t, e_81_30f, e_81_33, e_81_34, e_81_35, e_81_36, e_81_38, e_81_39, e_81_40, e_81_42, e_81_45t, e_81_45f, e_81_48, e_81_49, e_81_52, e_81_53, e_81_56, e_81_57, e_81_58, e_81_61, e_81_64, e_81_65, zPa_some, zPn_some, zRK_some, zRK_none, zCk_t, zis_ob, zget_set_eq, zget_set_ne, zAld_10, zAld_11, zAst_10, zAst_11, zAlen_10, zAlen_11, zbd_t, zbd_f, zb_t, zb_f, zset_set, s_one0, s_one1, zis_so]
  have := l_81 hne 24 0 r top 0 G M hM hF hC hG rG (by omega) (by omega) (by omega) (by omega) d K
  rw [Int.add_zero] at this
  exact this
theorem gwA_none {G : Int → Int} {top : Int} : gwA F2 F C G top 8 = G := by
  funext s; unfold gwA; rw [if_neg (fun q => by omega)]
theorem gwA_skip {G : Int → Int} {top r : Int} (hg : grd F2 r = false) : gwA F2 F C G top r = gwA F2 F C G top (r + 1) := by
  funext s
  unfold gwA
  by_cases hs : s / 24 = r
  · rw [if_neg (fun q => by rw [hs, hg] at q; cases q.2.2), if_neg (fun q => by omega)]
  · by_cases c : r * 24 ≤ s ∧ s < 192 ∧ grd F2 (s / 24) = true
    · rw [if_pos c, if_pos ⟨by omega, c.2⟩]
    · rw [if_neg c, if_neg (fun q => c ⟨by omega, q.2⟩)]
theorem gwA_step {G : Int → Int} {top r : Int} (hr : r ≤ 7) (hg : grd F2 r = true) : gwA F2 F C G top r = gwA F2 F C (gwear F C G top (r * 24) (r * 24 + 24)) top (r + 1) := by
  funext s
  unfold gwA
  by_cases hs : s / 24 = r
  · have e : gwear F C G top (r * 24) (r * 24 + 24) s = wst F C G top s := by unfold gwear; rw [if_pos (by omega)]
    rw [if_pos ⟨by omega, by omega, by rw [hs]; exact hg⟩, if_neg (fun q => by omega), e]
  · have e : gwear F C G top (r * 24) (r * 24 + 24) s = G s := by unfold gwear; rw [if_neg (by omega)]
    rw [wst_ext e, e]
    by_cases c : r * 24 ≤ s ∧ s < 192 ∧ grd F2 (s / 24) = true
    · rw [if_pos c, if_pos ⟨by omega, c.2⟩]
    · rw [if_neg c, if_neg (fun q => c ⟨by omega, q.2⟩)]
theorem l_79 (hne : h ≠ he ∧ fu ≠ he ∧ cr ≠ he ∧ h2 ≠ he ∧ fu2 ≠ he) : ∀ (n : Nat) (r top acc : Int) (G : Int → Int) (M : zM), zget M h = some (zSo fu cr he re nx) → zget M fu = some (zAb 192 F) → zget M cr = some (zAb 192 C) → zget M he = some (zA 10 192 G) → zget M h2 = some (zSo fu2 cr2 he2 re2 nx2) → zget M fu2 = some (zAb 192 F2) → (∀ j, 0 ≤ j → j < 192 → 0 ≤ G j ∧ G j ≤ 60) → r + n = 8 → 0 ≤ r → 0 ≤ top ∧ top ≤ 60 → ∀ (d : Nat) (K : zK), Ev (d + 5) 79 15 [some (.ref h), some (.ref h2), some (.int (zi top)), some (.int (zi acc)), some (.int (zi r))] [.int (zi 8), .int (zi r)] M K = K (some (.int (zi (zfor (f_wA F2 F C G top) (n * 24) (r * 24) acc)))) (zset M he (zA 10 192 (gwA F2 F C G top r))) := by
  intro n
  induction n with
  | zero =>
    intro r top acc G M hM hF hC hG hM2 hF2 rG hr h0 ht d K
    rw [Nat.zero_mul, zfor_0, show r = 8 by omega, gwA_none, zset_same hG]
    simp (disch := omega) only [zen_79, e_79_0, e_79_1, e_79_2, e_79_5, e_79_6, e_79_7, e_79_8, e_79_9, e_79_11, e_79_13, e_79_15t, e_79_15f, e_79_18, e_79_19, e_79_21, e_79_24t, e_79_24f, e_79_27, e_79_28, e_79_29, e_79_31, e_79_32, e_79_35, e_79_36, e_79_37, e_79_40, e_79_43, e_79_44, zPa_some, zPn_some, zRK_some, zRK_none, zCk_t, zis_ob, zget_set_eq, zget_set_ne, zAld_10, zAld_11, zAst_10, zAst_11, zAlen_10, zAlen_11, zbd_t, zbd_f, zb_t, zb_f, zset_set, s_one0, s_one1, zis_so]
  | succ n ih =>
    intro r top acc G M hM hF hC hG hM2 hF2 rG hr h0 ht d K
    have hg := s_grd hM2 hF2
    have hW := s_wearRing ⟨hne.1, hne.2.1, hne.2.2.1⟩ hM hF hC hG rG
    rw [show (n + 1) * 24 = 24 + n * 24 by omega, zfor_app, show r * 24 + (24 : Nat) = (r + 1) * 24 by omega]
    cases hc : grd F2 r with
    | true =>
      have e1 : zfor (f_wA F2 F C G top) 24 (r * 24) acc = acc + zfor (f_wl F C G top) 24 (r * 24) 0 := by
        have e2 : zfor (f_wA F2 F C G top) 24 (r * 24) acc = zfor (f_wl F C G top) 24 (r * 24) acc := by
          refine zfor_congr 24 _ _ (fun j t h1 h2 => ?_)
          unfold f_wA
          rw [show j / 24 = r by omega, if_pos hc]
        rw [e2]
        have add : ∀ (n : Nat) (i x y : Int), zfor (f_wl F C G top) n i (x + y) = x + zfor (f_wl F C G top) n i y := by
          intro n
          induction n with
          | zero => intro i x y; rfl
          | succ n ih2 =>
            intro i x y
            rw [zfor_s, zfor_s, ← ih2]
            congr 1
            unfold f_wl
            split <;> omega
        have := add 24 (r * 24) acc 0
        rw [Int.add_zero] at this
        exact this
      rw [gwA_step (by omega) hc, e1]
      have hrest := ih (r + 1) top (acc + zfor (f_wl F C G top) 24 (r * 24) 0) (gwear F C G top (r * 24) (r * 24 + 24)) (zset M he (zA 10 192 (gwear F C G top (r * 24) (r * 24 + 24)))) ((zget_set_ne hne.1).trans hM) ((zget_set_ne hne.2.1).trans hF) ((zget_set_ne hne.2.2.1).trans hC) zget_set_eq ((zget_set_ne hne.2.2.2.1).trans hM2) ((zget_set_ne hne.2.2.2.2).trans hF2)
        (fun j h1 h2 => by
          unfold gwear
          split
          · exact wst_rng (rG j h1 h2)
          · exact rG j h1 h2) (by omega) (by omega) ht d K
      rw [zset_set] at hrest
      have ext : zfor (f_wA F2 F C (gwear F C G top (r * 24) (r * 24 + 24)) top) (n * 24) ((r + 1) * 24) (acc + zfor (f_wl F C G top) 24 (r * 24) 0) = zfor (f_wA F2 F C G top) (n * 24) ((r + 1) * 24) (acc + zfor (f_wl F C G top) 24 (r * 24) 0) := by
        refine zfor_congr _ _ _ (fun j t h1 h2 => ?_)
        unfold f_wA
        rw [f_wl_ext (by unfold gwear; rw [if_neg (by omega)])]
      rw [ext] at hrest
      simp (disch := omega) only [zen_79, e_79_0, e_79_1, e_79_2, e_79_5, e_79_6, e_79_7, e_79_8, e_79_9, e_79_11, e_79_13, e_79_15t, e_79_15f, e_79_18, e_79_19, e_79_21, e_79_24t, e_79_24f, e_79_27, e_79_28, e_79_29, e_79_31, e_79_32, e_79_35, e_79_36, e_79_37, e_79_40, e_79_43, e_79_44, zPa_some, zPn_some, zRK_some, zRK_none, zCk_t, zis_ob, zget_set_eq, zget_set_ne, zAld_10, zAld_11, zAst_10, zAst_11, zAlen_10, zAlen_11, zbd_t, zbd_f, zb_t, zb_f, zset_set, s_one0, s_one1, zis_so, hM, hM2, hg, hc, hW]
      exact hrest
    | false =>
      have e1 : zfor (f_wA F2 F C G top) 24 (r * 24) acc = acc := by
        refine zfor_inv (fun z => z = acc) 24 _ acc rfl (fun j z h1 h2 h3 => ?_)
        rw [h3]
        unfold f_wA
        rw [show j / 24 = r by omega, hc]
        simp
      rw [e1, gwA_skip hc]
      simp (disch := omega) only [zen_79, e_79_0, e_79_1, e_79_2, e_79_5, e_79_6, e_79_7, e_79_8, e_79_9, e_79_11, e_79_13, e_79_15t, e_79_15f, e_79_18, e_79_19, e_79_21, e_79_24t, e_79_24f, e_79_27, e_79_28, e_79_29, e_79_31, e_79_32, e_79_35, e_79_36, e_79_37, e_79_40, e_79_43, e_79_44, zPa_some, zPn_some, zRK_some, zRK_none, zCk_t, zis_ob, zget_set_eq, zget_set_ne, zAld_10, zAld_11, zAst_10, zAst_11, zAlen_10, zAlen_11, zbd_t, zbd_f, zb_t, zb_f, zset_set, s_one0, s_one1, zis_so, hM2, hg, hc]
      exact ih _ _ _ _ _ hM hF hC hG hM2 hF2 rG (by omega) (by omega) ht d K
/-- a stone worn against another -/
theorem s_wearAgainst (hne : h ≠ he ∧ fu ≠ he ∧ cr ≠ he ∧ h2 ≠ he ∧ fu2 ≠ he) {G : Int → Int} {M : zM} (hM : zget M h = some (zSo fu cr he re nx)) (hF : zget M fu = some (zAb 192 F)) (hC : zget M cr = some (zAb 192 C)) (hG : zget M he = some (zA 10 192 G)) (hM2 : zget M h2 = some (zSo fu2 cr2 he2 re2 nx2)) (hF2 : zget M fu2 = some (zAb 192 F2)) (rG : ∀ j, 0 ≤ j → j < 192 → 0 ≤ G j ∧ G j ≤ 60) : ∀ (d : Nat) (K : zK), zC (d + 7) 79 [.ref h, .ref h2] M K = K (some (.int (zi (zfor (f_wA F2 F C G (zfor (f_top F2 F G) 192 0 0)) 192 0 0)))) (zset M he (zA 10 192 (gwA F2 F C G (zfor (f_top F2 F G) 192 0 0) 0))) := by
  intro d K
  have hH := s_highest hM hF hG rG hM2 hF2
  have rt := f_top_rng (F2 := F2) (F := F) rG (n := 192) (i := 0) (t := 0) (by omega) (by omega)
  simp (disch := omega) only [zen_79, e_79_0, e_79_1, e_79_2, e_79_5, e_79_6, e_79_7, e_79_8, e_79_9, e_79_11, e_79_13, e_79_18, e_79_19, e_79_21, e_79_24t, e_79_24f, e_79_27, e_79_28, e_79_29, e_79_31, e_79_32, e_79_35, e_79_36, e_79_37, e_79_40, e_79_43, e_79_44, zPa_some, zPn_some, zRK_some, zRK_none, zCk_t, zis_ob, zget_set_eq, zget_set_ne, zAld_10, zAld_11, zAst_10, zAst_11, zAlen_10, zAlen_11, zbd_t, zbd_f, zb_t, zb_f, zset_set, s_one0, s_one1, zis_so, hM, hH]
  exact l_79 hne 8 0 _ 0 G M hM hF hC hG hM2 hF2 rG (by omega) (by omega) rt (d + 1) K
end WEAR2
