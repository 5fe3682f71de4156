/-! the reference tries a hand's orders -/
def zFp (c : Nat) (M M' : zM) : Prop := (∀ a, a ≠ c → (a < c + 15 ∨ c + 19 ≤ a) → zget M' a = zget M a) ∧ M'.1 = M.1 ∧ M'.2.1 = M.2.1 ∧ M'.2.2.1 = M.2.2.1
theorem zFp_refl {c : Nat} {M : zM} : zFp c M M := ⟨fun _ _ _ => rfl, rfl, rfl, rfl⟩
theorem zFp_trans {c : Nat} {M M' M'' : zM} (h : zFp c M M') (h' : zFp c M' M'') : zFp c M M'' := ⟨fun a q r => (h'.1 a q r).trans (h.1 a q r), h'.2.1.trans h.2.1, h'.2.2.1.trans h.2.2.1, h'.2.2.2.trans h.2.2.2⟩
theorem zFp_set {c a : Nat} {M : zM} {x : zE} (h : a = c ∨ (c + 15 ≤ a ∧ a < c + 19)) : zFp c M (zset M a x) := ⟨fun _ _ _ => zget_set_ne (by omega), rfl, rfl, rfl⟩
def PN (c : Nat) (w : Nat → Int) (R : Nat → Int → Int) (D : Int → Bool) (wh bw g bg : Int → Int) (M : zM) : Prop := zget M c = some (zMo c w) ∧ zget M (c + 10) = some (zAb 6 D) ∧ zget M (c + 11) = some (zA 10 6 (R 11)) ∧ zget M (c + 12) = some (zA 10 6 (R 12)) ∧ zget M (c + 13) = some (zA 10 6 (R 13)) ∧ zget M (c + 14) = some (zA 10 36 (R 14)) ∧ zget M (c + 15) = some (zA 10 6 wh) ∧ zget M (c + 16) = some (zA 10 6 bw) ∧ zget M (c + 17) = some (zA 10 6 g) ∧ zget M (c + 18) = some (zA 10 6 bg)
section PNS
variable {c : Nat} {w w' : Nat → Int} {R : Nat → Int → Int} {D : Int → Bool} {wh bw g bg wh' bw' g' bg' : Int → Int} {M : zM}
theorem PN_w (x : PN c w R D wh bw g bg M) : PN c w' R D wh bw g bg (zset M c (zMo c w')) := by
  obtain ⟨x0, x1, x2, x3, x4, x5, x6, x7, x8, x9⟩ := x
  exact ⟨zget_set_eq, (zget_set_ne (by omega)).trans x1, (zget_set_ne (by omega)).trans x2, (zget_set_ne (by omega)).trans x3, (zget_set_ne (by omega)).trans x4, (zget_set_ne (by omega)).trans x5, (zget_set_ne (by omega)).trans x6, (zget_set_ne (by omega)).trans x7, (zget_set_ne (by omega)).trans x8, (zget_set_ne (by omega)).trans x9⟩
theorem PN_wh (x : PN c w R D wh bw g bg M) : PN c w R D wh' bw g bg (zset M (c + 15) (zA 10 6 wh')) := by
  obtain ⟨x0, x1, x2, x3, x4, x5, x6, x7, x8, x9⟩ := x
  exact ⟨(zget_set_ne (by omega)).trans x0, (zget_set_ne (by omega)).trans x1, (zget_set_ne (by omega)).trans x2, (zget_set_ne (by omega)).trans x3, (zget_set_ne (by omega)).trans x4, (zget_set_ne (by omega)).trans x5, zget_set_eq, (zget_set_ne (by omega)).trans x7, (zget_set_ne (by omega)).trans x8, (zget_set_ne (by omega)).trans x9⟩
theorem PN_bw (x : PN c w R D wh bw g bg M) : PN c w R D wh bw' g bg (zset M (c + 16) (zA 10 6 bw')) := by
  obtain ⟨x0, x1, x2, x3, x4, x5, x6, x7, x8, x9⟩ := x
  exact ⟨(zget_set_ne (by omega)).trans x0, (zget_set_ne (by omega)).trans x1, (zget_set_ne (by omega)).trans x2, (zget_set_ne (by omega)).trans x3, (zget_set_ne (by omega)).trans x4, (zget_set_ne (by omega)).trans x5, (zget_set_ne (by omega)).trans x6, zget_set_eq, (zget_set_ne (by omega)).trans x8, (zget_set_ne (by omega)).trans x9⟩
theorem PN_g (x : PN c w R D wh bw g bg M) : PN c w R D wh bw g' bg (zset M (c + 17) (zA 10 6 g')) := by
  obtain ⟨x0, x1, x2, x3, x4, x5, x6, x7, x8, x9⟩ := x
  exact ⟨(zget_set_ne (by omega)).trans x0, (zget_set_ne (by omega)).trans x1, (zget_set_ne (by omega)).trans x2, (zget_set_ne (by omega)).trans x3, (zget_set_ne (by omega)).trans x4, (zget_set_ne (by omega)).trans x5, (zget_set_ne (by omega)).trans x6, (zget_set_ne (by omega)).trans x7, zget_set_eq, (zget_set_ne (by omega)).trans x9⟩
theorem PN_bg (x : PN c w R D wh bw g bg M) : PN c w R D wh bw g bg' (zset M (c + 18) (zA 10 6 bg')) := by
  obtain ⟨x0, x1, x2, x3, x4, x5, x6, x7, x8, x9⟩ := x
  exact ⟨(zget_set_ne (by omega)).trans x0, (zget_set_ne (by omega)).trans x1, (zget_set_ne (by omega)).trans x2, (zget_set_ne (by omega)).trans x3, (zget_set_ne (by omega)).trans x4, (zget_set_ne (by omega)).trans x5, (zget_set_ne (by omega)).trans x6, (zget_set_ne (by omega)).trans x7, (zget_set_ne (by omega)).trans x8, zget_set_eq⟩
end PNS
theorem lst_snoc : ∀ (L : List Int) (m j : Int), 0 ≤ j → lst (L ++ [m]) j = if j < L.length then lst L j else if j = L.length then m else 0 := by
  intro L
  induction L with
  | nil =>
    intro m j h
    by_cases c : j = 0
    · subst c; rfl
    · rw [if_neg (show ¬ j < (([] : List Int).length : Int) by show ¬ j < 0; omega), if_neg (show ¬ j = (([] : List Int).length : Int) from c)]
      unfold lst
      have e : j.toNat = (j.toNat - 1) + 1 := by omega
      rw [e]
      rfl
  | cons x L ih =>
    intro m j h
    by_cases c : j = 0
    · subst c
      rw [if_pos (by rw [List.length_cons]; omega)]
      rfl
    · have e : j.toNat = (j - 1).toNat + 1 := by omega
      have e1 : lst ((x :: L) ++ [m]) j = lst (L ++ [m]) (j - 1) := by unfold lst; rw [e]; rfl
      have e2 : lst (x :: L) j = lst L (j - 1) := by unfold lst; rw [e]; rfl
      rw [e1, e2, ih m (j - 1) (by omega), List.length_cons]
      by_cases c1 : j - 1 < L.length
      · rw [if_pos c1, if_pos (show j < ((L.length + 1 : Nat) : Int) by omega)]
      · rw [if_neg c1, if_neg (show ¬ j < ((L.length + 1 : Nat) : Int) by omega)]
        by_cases c2 : j - 1 = L.length
        · rw [if_pos c2, if_pos (show j = ((L.length + 1 : Nat) : Int) by omega)]
        · rw [if_neg c2, if_neg (show ¬ j = ((L.length + 1 : Nat) : Int) by omega)]
theorem lst_tail {x : Int} {L : List Int} {j : Int} (h : 0 ≤ j) : lst (x :: L) (j + 1) = lst L j := by
  unfold lst
  have e : (j + 1).toNat = j.toNat + 1 := by omega
  rw [e]
  rfl
theorem AG_snoc {g : Int → Int} {L : List Int} {m : Int} (a : AG g L) : AG (zu g L.length m) (L ++ [m]) := by
  intro j h1 h2
  rw [List.length_append, List.length_singleton] at h2
  rw [lst_snoc L m j h1]
  unfold zu
  by_cases c : j = L.length
  · rw [if_pos c, if_neg (by omega), if_pos c]
  · rw [if_neg c, if_pos (by omega)]
    exact a j h1 (by omega)
section MTRY
variable {c : Nat} {R : Nat → Int → Int} {D : Int → Bool} {wh bw : Int → Int}
theorem lm_206 (w0 : Nat → Int) (hd : Int) (hh : 0 ≤ hd ∧ hd ≤ 3) (hw : ∀ j, 0 ≤ j → j < 6 → D j = true → 0 ≤ wh j ∧ wh j ≤ 3) : ∀ (n : Nat) (m : Int) (pre : List Int) (g bg : Int → Int) (M : zM), PN c (zuN w0 36 pre.length) R D wh bw g bg M → AG g pre → m + n = 6 → 0 ≤ m → pre.length ≤ m → ∃ M' g', (∀ (d : Nat) (K : zK), Ev d 206 10 [some (.ref c), some (.int (zi hd)), some (.int (zi m))] [.int (zi 6), .int (zi m)] M K = K none M') ∧ PN c (zuN w0 36 (pre ++ (mlS n m).filter (fun j => D j && decide (wh j = hd))).length) R D wh bw g' bg M' ∧ AG g' (pre ++ (mlS n m).filter (fun j => D j && decide (wh j = hd))) ∧ zFp c M M' := by
  intro n
  induction n with
  | zero =>
    intro m pre g bg M x a hm h0 hl
    refine ⟨M, g, fun d K => ?_, ?_, ?_, zFp_refl⟩
    · simp (disch := omega) only [zgm_0, zgm_1, zgm_2, zgm_3, zgm_4, zgm_5, zgm_6, zgm_7, zgm_8, zgm_9, zgm_10, zgm_11, zgm_12, zgm_13, zgm_14, zgm_15, zgm_16, zgm_17, zgm_18, zgm_19, zgm_20, zgm_21, zgm_22, zgm_23, zgm_24, zgm_25, zgm_26, zgm_27, zgm_28, zgm_29, zgm_30, zgm_31, zgm_32, zgm_33, zgm_34, zgm_35, zgm_36, zgm_37, zpm_4, zpm_5, zpm_6, zpm_7, zpm_8, zpm_9, zpm_10, zpm_11, zpm_12, zpm_13, zpm_14, zpm_15, zpm_16, zpm_17, zpm_18, zpm_22, zpm_23, zpm_31, zpm_32, zpm_36, zis_mo, zuN_eq, zuN_ne, zen_206, e_206_0, e_206_1, e_206_2, e_206_5, e_206_6, e_206_7, e_206_8, e_206_10t, e_206_10f, e_206_13, e_206_14, e_206_17, e_206_18, e_206_19t, e_206_19f, e_206_22, e_206_23, e_206_26, e_206_27, e_206_28, e_206_29t, e_206_29f, e_206_32, e_206_33, e_206_36, e_206_37, e_206_40, e_206_41, e_206_42, e_206_43, e_206_44, e_206_47, e_206_48, e_206_49, e_206_52, e_206_55, e_206_58, zPa_some, zPn_some, zRK_some, zRK_none, zCk_t, zis_ob, zget_set_eq, zget_set_ne, zAld_10, zAld_11, zAst_10, zAst_11, zAlen_10, zAlen_11, zbd_t, zbd_f, zb_t, zb_f, zset_set, s_one0, s_one1, zis_so]
    · rw [show (mlS 0 m).filter (fun j => D j && decide (wh j = hd)) = [] from rfl, List.append_nil]; exact x
    · rw [show (mlS 0 m).filter (fun j => D j && decide (wh j = hd)) = [] from rfl, List.append_nil]; exact a
  | succ n ih =>
    intro m pre g bg M x a hm h0 hl
    obtain ⟨x0, x1, x2, x3, x4, x5, x6, x7, x8, x9⟩ := id x
    have ef : (mlS (n + 1) m).filter (fun j => D j && decide (wh j = hd)) = if (D m && decide (wh m = hd)) = true then m :: (mlS n (m + 1)).filter (fun j => D j && decide (wh j = hd)) else (mlS n (m + 1)).filter (fun j => D j && decide (wh j = hd)) := by
      show List.filter _ (m :: mlS n (m + 1)) = _
      rw [List.filter_cons]
    by_cases q : (D m && decide (wh m = hd)) = true
    · rw [if_pos q] at ef
      rw [Bool.and_eq_true_iff, decide_eq_true_iff] at q
      have y := PN_w (w' := zuN w0 36 (pre ++ [m]).length) (PN_g (g' := zu g pre.length m) x)
      obtain ⟨M', g', a1, a2, a3, a4⟩ := ih (m + 1) (pre ++ [m]) _ bg _ y (AG_snoc a) (by omega) (by omega) (by rw [List.length_append, List.length_singleton]; omega)
      rw [ef, show pre ++ m :: (mlS n (m + 1)).filter (fun j => D j && decide (wh j = hd)) = (pre ++ [m]) ++ (mlS n (m + 1)).filter (fun j => D j && decide (wh j = hd)) by rw [List.append_assoc]; rfl]
      refine ⟨M', g', fun d K => ?_, a2, a3, zFp_trans (zFp_trans (zFp_set (by omega)) (zFp_set (by omega))) a4⟩
      rw [← a1 d K]
      have ew := hw m h0 (by omega) q.1
      have el : ((pre ++ [m]).length : Int) = pre.length + 1 := by rw [List.length_append, List.length_singleton]; omega
      have qd := q.1
      have qh := q.2
      rw [el]
      simp (disch := omega) only [zgm_0, zgm_1, zgm_2, zgm_3, zgm_4, zgm_5, zgm_6, zgm_7, zgm_8, zgm_9, zgm_10, zgm_11, zgm_12, zgm_13, zgm_14, zgm_15, zgm_16, zgm_17, zgm_18, zgm_19, zgm_20, zgm_21, zgm_22, zgm_23, zgm_24, zgm_25, zgm_26, zgm_27, zgm_28, zgm_29, zgm_30, zgm_31, zgm_32, zgm_33, zgm_34, zgm_35, zgm_36, zgm_37, zpm_4, zpm_5, zpm_6, zpm_7, zpm_8, zpm_9, zpm_10, zpm_11, zpm_12, zpm_13, zpm_14, zpm_15, zpm_16, zpm_17, zpm_18, zpm_22, zpm_23, zpm_31, zpm_32, zpm_36, zis_mo, zuN_eq, zuN_ne, zen_206, e_206_0, e_206_1, e_206_2, e_206_5, e_206_6, e_206_7, e_206_8, e_206_10t, e_206_10f, e_206_13, e_206_14, e_206_17, e_206_18, e_206_19t, e_206_19f, e_206_22, e_206_23, e_206_26, e_206_27, e_206_28, e_206_29t, e_206_29f, e_206_32, e_206_33, e_206_36, e_206_37, e_206_40, e_206_41, e_206_42, e_206_43, e_206_44, e_206_47, e_206_48, e_206_49, e_206_52, e_206_55, e_206_58, zPa_some, zPn_some, zRK_some, zRK_none, zCk_t, zis_ob, zget_set_eq, zget_set_ne, zAld_10, zAld_11, zAst_10, zAst_11, zAlen_10, zAlen_11, zbd_t, zbd_f, zb_t, zb_f, zset_set, s_one0, s_one1, zis_so, x0, x1, x6, x8, zAld_b, qd, qh, zuN_zuN]
    · rw [if_neg q] at ef
      obtain ⟨M', g', a1, a2, a3, a4⟩ := ih (m + 1) pre g bg M x a (by omega) (by omega) (by omega)
      rw [ef]
      refine ⟨M', g', fun d K => ?_, a2, a3, a4⟩
      rw [← a1 d K]
      cases qd : D m with
      | false => simp (disch := omega) only [zgm_0, zgm_1, zgm_2, zgm_3, zgm_4, zgm_5, zgm_6, zgm_7, zgm_8, zgm_9, zgm_10, zgm_11, zgm_12, zgm_13, zgm_14, zgm_15, zgm_16, zgm_17, zgm_18, zgm_19, zgm_20, zgm_21, zgm_22, zgm_23, zgm_24, zgm_25, zgm_26, zgm_27, zgm_28, zgm_29, zgm_30, zgm_31, zgm_32, zgm_33, zgm_34, zgm_35, zgm_36, zgm_37, zpm_4, zpm_5, zpm_6, zpm_7, zpm_8, zpm_9, zpm_10, zpm_11, zpm_12, zpm_13, zpm_14, zpm_15, zpm_16, zpm_17, zpm_18, zpm_22, zpm_23, zpm_31, zpm_32, zpm_36, zis_mo, zuN_eq, zuN_ne, zen_206, e_206_0, e_206_1, e_206_2, e_206_5, e_206_6, e_206_7, e_206_8, e_206_10t, e_206_10f, e_206_13, e_206_14, e_206_17, e_206_18, e_206_19t, e_206_19f, e_206_22, e_206_23, e_206_26, e_206_27, e_206_28, e_206_29t, e_206_29f, e_206_32, e_206_33, e_206_36, e_206_37, e_206_40, e_206_41, e_206_42, e_206_43, e_206_44, e_206_47, e_206_48, e_206_49, e_206_52, e_206_55, e_206_58, zPa_some, zPn_some, zRK_some, zRK_none, zCk_t, zis_ob, zget_set_eq, zget_set_ne, zAld_10, zAld_11, zAst_10, zAst_11, zAlen_10, zAlen_11, zbd_t, zbd_f, zb_t, zb_f, zset_set, s_one0, s_one1, zis_so, x0, x1, x6, zAld_b, qd]
      | true =>
        have ew := hw m h0 (by omega) qd
        have qh : ¬ wh m = hd := fun z => q (by rw [qd, decide_eq_true z]; rfl)
        simp (disch := omega) only [zgm_0, zgm_1, zgm_2, zgm_3, zgm_4, zgm_5, zgm_6, zgm_7, zgm_8, zgm_9, zgm_10, zgm_11, zgm_12, zgm_13, zgm_14, zgm_15, zgm_16, zgm_17, zgm_18, zgm_19, zgm_20, zgm_21, zgm_22, zgm_23, zgm_24, zgm_25, zgm_26, zgm_27, zgm_28, zgm_29, zgm_30, zgm_31, zgm_32, zgm_33, zgm_34, zgm_35, zgm_36, zgm_37, zpm_4, zpm_5, zpm_6, zpm_7, zpm_8, zpm_9, zpm_10, zpm_11, zpm_12, zpm_13, zpm_14, zpm_15, zpm_16, zpm_17, zpm_18, zpm_22, zpm_23, zpm_31, zpm_32, zpm_36, zis_mo, zuN_eq, zuN_ne, zen_206, e_206_0, e_206_1, e_206_2, e_206_5, e_206_6, e_206_7, e_206_8, e_206_10t, e_206_10f, e_206_13, e_206_14, e_206_17, e_206_18, e_206_19t, e_206_19f, e_206_22, e_206_23, e_206_26, e_206_27, e_206_28, e_206_29t, e_206_29f, e_206_32, e_206_33, e_206_36, e_206_37, e_206_40, e_206_41, e_206_42, e_206_43, e_206_44, e_206_47, e_206_48, e_206_49, e_206_52, e_206_55, e_206_58, zPa_some, zPn_some, zRK_some, zRK_none, zCk_t, zis_ob, zget_set_eq, zget_set_ne, zAld_10, zAld_11, zAst_10, zAst_11, zAlen_10, zAlen_11, zbd_t, zbd_f, zb_t, zb_f, zset_set, s_one0, s_one1, zis_so, x0, x1, x6, zAld_b, qd]
def soM (D : Int → Bool) (wh : Int → Int) (hd : Int) : Int := stP (fun j => D j && decide (wh j = hd))
theorem asc_M {hd : Int} : (mlS 6 0).filter (fun j => D j && decide (wh j = hd)) = ascS (soM D wh hd) := by
  unfold ascS
  refine List.filter_congr (fun m hm => ?_)
  have := mlS_mem 6 0 m hm
  unfold soM
  rw [bt_stP (by omega)]
theorem s_layOrder {w : Nat → Int} {g bg : Int → Int} {M : zM} (x : PN c w R D wh bw g bg M) (hw : ∀ j, 0 ≤ j → j < 6 → D j = true → 0 ≤ wh j ∧ wh j ≤ 3) (hd : Int) (hh : 0 ≤ hd ∧ hd ≤ 3) : ∃ M' g', (∀ (d : Nat) (K : zK), zC (d + 1) 206 [.ref c, .int (zi hd)] M K = K none M') ∧ PN c (zuN w 36 (ascS (soM D wh hd)).length) R D wh bw g' bg M' ∧ AG g' (ascS (soM D wh hd)) ∧ zFp c M M' := by
  have y := PN_w (w' := zuN w 36 (([] : List Int).length : Int)) x
  obtain ⟨M', g', a1, a2, a3, a4⟩ := lm_206 w hd hh hw 6 0 [] g bg _ y (fun j h1 h2 => by exact absurd h2 (by show ¬ j < 0; omega)) (by omega) (by omega) (by show (0 : Int) ≤ 0; omega)
  rw [List.nil_append, asc_M] at a2 a3
  refine ⟨M', g', fun d K => ?_, a2, a3, zFp_trans (zFp_set (by omega)) a4⟩
  rw [← a1 d K]
  have x0 := x.1
  simp (disch := omega) only [zgm_0, zgm_1, zgm_2, zgm_3, zgm_4, zgm_5, zgm_6, zgm_7, zgm_8, zgm_9, zgm_10, zgm_11, zgm_12, zgm_13, zgm_14, zgm_15, zgm_16, zgm_17, zgm_18, zgm_19, zgm_20, zgm_21, zgm_22, zgm_23, zgm_24, zgm_25, zgm_26, zgm_27, zgm_28, zgm_29, zgm_30, zgm_31, zgm_32, zgm_33, zgm_34, zgm_35, zgm_36, zgm_37, zpm_4, zpm_5, zpm_6, zpm_7, zpm_8, zpm_9, zpm_10, zpm_11, zpm_12, zpm_13, zpm_14, zpm_15, zpm_16, zpm_17, zpm_18, zpm_22, zpm_23, zpm_31, zpm_32, zpm_36, zis_mo, zuN_eq, zuN_ne, zen_206, e_206_0, e_206_1, e_206_2, e_206_5, e_206_6, e_206_7, e_206_8, e_206_13, e_206_14, e_206_17, e_206_18, e_206_19t, e_206_19f, e_206_22, e_206_23, e_206_26, e_206_27, e_206_28, e_206_29t, e_206_29f, e_206_32, e_206_33, e_206_36, e_206_37, e_206_40, e_206_41, e_206_42, e_206_43, e_206_44, e_206_47, e_206_48, e_206_49, e_206_52, e_206_55, e_206_58, zPa_some, zPn_some, zRK_some, zRK_none, zCk_t, zis_ob, zget_set_eq, zget_set_ne, zAld_10, zAld_11, zAst_10, zAst_11, zAlen_10, zAlen_11, zbd_t, zbd_f, zb_t, zb_f, zset_set, s_one0, s_one1, zis_so, x0]
  rfl
theorem lm_207 (rm : RM R D) (k : Int) (hk : 0 ≤ k ∧ k ≤ 6) {w : Nat → Int} (hwk : w 36 = k) {g : Int → Int} : ∀ (suf : List Int) (i p y : Int) (bg : Int → Int) (M : zM) (u3 u4 : Option Value), PN c w R D wh bw g bg M → (∀ j : Int, 0 ≤ j → j < suf.length → g (i + j) = lst suf j) → i + suf.length = k → ((i = 0 ∧ p = -1 ∧ y = -1) ∨ (0 < i ∧ g (i - 1) = p ∧ 0 ≤ p ∧ p < 6 ∧ -1 ≤ y ∧ y ≤ 30)) → (∀ m, m ∈ suf → 0 ≤ m ∧ m < 6) → ∃ M' bg', (∀ (d : Nat) (K : zK), Ev d 207 9 [some (.ref c), some (.int (zi y)), some (.int (zi i)), u3, u4] [.int (zi k), .int (zi i)] M K = K (some (.int (zi (laE R p y suf)))) M') ∧ PN c w R D wh bw g bg' M' ∧ zFp c M M' ∧ (∀ j, ¬ j ∈ suf → bg' j = bg j) ∧ (laE R p y suf ≠ 99 → ∀ j, bg' j = sgS R p y suf bg j) := by
  intro suf
  induction suf with
  | nil =>
    intro i p y bg M u3 u4 x hg hi hp hl
    have e : i = k := by rw [List.length_nil] at hi; omega
    subst e
    refine ⟨M, bg, fun d K => ?_, x, zFp_refl, fun _ _ => rfl, fun _ _ => rfl⟩
    simp (disch := omega) only [zgm_0, zgm_1, zgm_2, zgm_3, zgm_4, zgm_5, zgm_6, zgm_7, zgm_8, zgm_9, zgm_10, zgm_11, zgm_12, zgm_13, zgm_14, zgm_15, zgm_16, zgm_17, zgm_18, zgm_19, zgm_20, zgm_21, zgm_22, zgm_23, zgm_24, zgm_25, zgm_26, zgm_27, zgm_28, zgm_29, zgm_30, zgm_31, zgm_32, zgm_33, zgm_34, zgm_35, zgm_36, zgm_37, zpm_4, zpm_5, zpm_6, zpm_7, zpm_8, zpm_9, zpm_10, zpm_11, zpm_12, zpm_13, zpm_14, zpm_15, zpm_16, zpm_17, zpm_18, zpm_22, zpm_23, zpm_31, zpm_32, zpm_36, zis_mo, zuN_eq, zuN_ne, zen_207, e_207_0, e_207_1, e_207_2, e_207_3, e_207_4, e_207_5, e_207_6, e_207_9t, e_207_9f, e_207_12, e_207_13, e_207_16, e_207_17, e_207_18, e_207_19, e_207_20, e_207_21, e_207_22, e_207_23t, e_207_23f, e_207_26, e_207_27, e_207_30, e_207_31, e_207_34, e_207_36, e_207_37, e_207_40, e_207_41, e_207_42, e_207_43, e_207_44, e_207_45, e_207_46, e_207_47, e_207_48, e_207_49, e_207_51, e_207_53, e_207_54, e_207_57, e_207_58, e_207_59t, e_207_59f, e_207_62, e_207_63, e_207_66, e_207_67, e_207_68, e_207_71, e_207_73, e_207_75, e_207_76, e_207_79, e_207_80, e_207_82, e_207_83, e_207_85, e_207_86, e_207_89, e_207_90, e_207_91, e_207_92, e_207_93, e_207_94, e_207_95, e_207_96, e_207_97, e_207_100, e_207_101, e_207_102t, e_207_102f, e_207_105, e_207_107, e_207_108, e_207_111, e_207_114, e_207_115, zPa_some, zPn_some, zRK_some, zRK_none, zCk_t, zis_ob, zget_set_eq, zget_set_ne, zAld_10, zAld_11, zAst_10, zAst_11, zAlen_10, zAlen_11, zbd_t, zbd_f, zb_t, zb_f, zset_set, s_one0, s_one1, zis_so]
    rfl
  | cons m suf ih =>
    intro i p y bg M u3 u4 x hg hi hp hl
    have hm := hl m List.mem_cons_self
    rw [List.length_cons] at hi
    have gm : g i = m := by
      have := hg 0 (Int.le_refl _) (by rw [List.length_cons]; omega)
      rw [Int.add_zero] at this
      exact this
    have r := rm.1 m hm.1 hm.2
    have hy99 : y ≠ 99 := by omega
    have rk : 0 ≤ skS R p y m ∧ skS R p y m ≤ 100 := by
      unfold skS
      split
      · omega
      · have r14 := rm.2 (p * 6 + m) (by omega) (by omega)
        omega
    have ren : -1 ≤ enS R p y m ∧ enS R p y m ≤ 200 := by unfold enS; omega
    obtain ⟨x0, x1, x2, x3, x4, x5, x6, x7, x8, x9⟩ := id x
    have z := PN_bg (bg' := zu bg m (skS R p y m)) x
    have ed : skS R p y m + R 13 m - 1 = enS R p y m := rfl
    have step : ∀ (d : Nat) (K : zK), Ev d 207 9 [some (.ref c), some (.int (zi y)), some (.int (zi i)), u3, u4] [.int (zi k), .int (zi i)] M K = Ev d 207 75 [some (.ref c), some (.int (zi y)), some (.int (zi i)), some (.int (zi m)), some (.int (zi (skS R p y m)))] [] M K := by
      intro d K
      rcases hp with ⟨q1, q2, q3⟩ | ⟨q1, q2, q3, q4, q5, q6⟩
      · have ek : skS R p y m = R 11 m := by unfold skS; rw [if_pos q2]
        rw [ek]
        subst q1
        subst q3
        by_cases c1 : R 11 m = 0
        · rw [c1]
          simp (disch := omega) only [zgm_0, zgm_1, zgm_2, zgm_3, zgm_4, zgm_5, zgm_6, zgm_7, zgm_8, zgm_9, zgm_10, zgm_11, zgm_12, zgm_13, zgm_14, zgm_15, zgm_16, zgm_17, zgm_18, zgm_19, zgm_20, zgm_21, zgm_22, zgm_23, zgm_24, zgm_25, zgm_26, zgm_27, zgm_28, zgm_29, zgm_30, zgm_31, zgm_32, zgm_33, zgm_34, zgm_35, zgm_36, zgm_37, zpm_4, zpm_5, zpm_6, zpm_7, zpm_8, zpm_9, zpm_10, zpm_11, zpm_12, zpm_13, zpm_14, zpm_15, zpm_16, zpm_17, zpm_18, zpm_22, zpm_23, zpm_31, zpm_32, zpm_36, zis_mo, zuN_eq, zuN_ne, zen_207, e_207_0, e_207_1, e_207_2, e_207_3, e_207_4, e_207_5, e_207_6, e_207_9t, e_207_9f, e_207_12, e_207_13, e_207_16, e_207_17, e_207_18, e_207_19, e_207_20, e_207_21, e_207_22, e_207_23t, e_207_23f, e_207_26, e_207_27, e_207_30, e_207_31, e_207_34, e_207_36, e_207_37, e_207_40, e_207_41, e_207_42, e_207_43, e_207_44, e_207_45, e_207_46, e_207_47, e_207_48, e_207_49, e_207_51, e_207_53, e_207_54, e_207_57, e_207_58, e_207_59t, e_207_59f, e_207_62, e_207_63, e_207_66, e_207_67, e_207_68, e_207_71, e_207_73, e_207_76, e_207_79, e_207_80, e_207_82, e_207_83, e_207_85, e_207_86, e_207_89, e_207_90, e_207_91, e_207_92, e_207_93, e_207_94, e_207_95, e_207_96, e_207_97, e_207_100, e_207_101, e_207_102t, e_207_102f, e_207_105, e_207_107, e_207_108, e_207_111, e_207_114, e_207_115, zPa_some, zPn_some, zRK_some, zRK_none, zCk_t, zis_ob, zget_set_eq, zget_set_ne, zAld_10, zAld_11, zAst_10, zAst_11, zAlen_10, zAlen_11, zbd_t, zbd_f, zb_t, zb_f, zset_set, s_one0, s_one1, zis_so, x0, x2, x8, gm, c1]
          rfl
        · simp (disch := omega) only [zgm_0, zgm_1, zgm_2, zgm_3, zgm_4, zgm_5, zgm_6, zgm_7, zgm_8, zgm_9, zgm_10, zgm_11, zgm_12, zgm_13, zgm_14, zgm_15, zgm_16, zgm_17, zgm_18, zgm_19, zgm_20, zgm_21, zgm_22, zgm_23, zgm_24, zgm_25, zgm_26, zgm_27, zgm_28, zgm_29, zgm_30, zgm_31, zgm_32, zgm_33, zgm_34, zgm_35, zgm_36, zgm_37, zpm_4, zpm_5, zpm_6, zpm_7, zpm_8, zpm_9, zpm_10, zpm_11, zpm_12, zpm_13, zpm_14, zpm_15, zpm_16, zpm_17, zpm_18, zpm_22, zpm_23, zpm_31, zpm_32, zpm_36, zis_mo, zuN_eq, zuN_ne, zen_207, e_207_0, e_207_1, e_207_2, e_207_3, e_207_4, e_207_5, e_207_6, e_207_9t, e_207_9f, e_207_12, e_207_13, e_207_16, e_207_17, e_207_18, e_207_19, e_207_20, e_207_21, e_207_22, e_207_23t, e_207_23f, e_207_26, e_207_27, e_207_30, e_207_31, e_207_34, e_207_36, e_207_37, e_207_40, e_207_41, e_207_42, e_207_43, e_207_44, e_207_45, e_207_46, e_207_47, e_207_48, e_207_49, e_207_51, e_207_53, e_207_54, e_207_57, e_207_58, e_207_59t, e_207_59f, e_207_62, e_207_63, e_207_66, e_207_67, e_207_68, e_207_71, e_207_73, e_207_76, e_207_79, e_207_80, e_207_82, e_207_83, e_207_85, e_207_86, e_207_89, e_207_90, e_207_91, e_207_92, e_207_93, e_207_94, e_207_95, e_207_96, e_207_97, e_207_100, e_207_101, e_207_102t, e_207_102f, e_207_105, e_207_107, e_207_108, e_207_111, e_207_114, e_207_115, zPa_some, zPn_some, zRK_some, zRK_none, zCk_t, zis_ob, zget_set_eq, zget_set_ne, zAld_10, zAld_11, zAst_10, zAst_11, zAlen_10, zAlen_11, zbd_t, zbd_f, zb_t, zb_f, zset_set, s_one0, s_one1, zis_so, x0, x2, x8, gm]
      · have ek : skS R p y m = max (R 11 m) (y + R 14 (p * 6 + m) + 1) := by unfold skS; rw [if_neg (by omega)]
        have r14 := rm.2 (p * 6 + m) (by omega) (by omega)
        have m6 := Int.mul_comm 6 p
        rw [ek]
        by_cases c1 : y + 1 + R 14 (p * 6 + m) < R 11 m
        · rw [show max (R 11 m) (y + R 14 (p * 6 + m) + 1) = R 11 m by omega]
          simp (disch := omega) only [zgm_0, zgm_1, zgm_2, zgm_3, zgm_4, zgm_5, zgm_6, zgm_7, zgm_8, zgm_9, zgm_10, zgm_11, zgm_12, zgm_13, zgm_14, zgm_15, zgm_16, zgm_17, zgm_18, zgm_19, zgm_20, zgm_21, zgm_22, zgm_23, zgm_24, zgm_25, zgm_26, zgm_27, zgm_28, zgm_29, zgm_30, zgm_31, zgm_32, zgm_33, zgm_34, zgm_35, zgm_36, zgm_37, zpm_4, zpm_5, zpm_6, zpm_7, zpm_8, zpm_9, zpm_10, zpm_11, zpm_12, zpm_13, zpm_14, zpm_15, zpm_16, zpm_17, zpm_18, zpm_22, zpm_23, zpm_31, zpm_32, zpm_36, zis_mo, zuN_eq, zuN_ne, zen_207, e_207_0, e_207_1, e_207_2, e_207_3, e_207_4, e_207_5, e_207_6, e_207_9t, e_207_9f, e_207_12, e_207_13, e_207_16, e_207_17, e_207_18, e_207_19, e_207_20, e_207_21, e_207_22, e_207_23t, e_207_23f, e_207_26, e_207_27, e_207_30, e_207_31, e_207_34, e_207_36, e_207_37, e_207_40, e_207_41, e_207_42, e_207_43, e_207_44, e_207_45, e_207_46, e_207_47, e_207_48, e_207_49, e_207_51, e_207_53, e_207_54, e_207_57, e_207_58, e_207_59t, e_207_59f, e_207_62, e_207_63, e_207_66, e_207_67, e_207_68, e_207_71, e_207_73, e_207_76, e_207_79, e_207_80, e_207_82, e_207_83, e_207_85, e_207_86, e_207_89, e_207_90, e_207_91, e_207_92, e_207_93, e_207_94, e_207_95, e_207_96, e_207_97, e_207_100, e_207_101, e_207_102t, e_207_102f, e_207_105, e_207_107, e_207_108, e_207_111, e_207_114, e_207_115, zPa_some, zPn_some, zRK_some, zRK_none, zCk_t, zis_ob, zget_set_eq, zget_set_ne, zAld_10, zAld_11, zAst_10, zAst_11, zAlen_10, zAlen_11, zbd_t, zbd_f, zb_t, zb_f, zset_set, s_one0, s_one1, zis_so, x0, x2, x5, x8, gm, q2, m6]
        · rw [show max (R 11 m) (y + R 14 (p * 6 + m) + 1) = y + 1 + R 14 (p * 6 + m) by omega]
          simp (disch := omega) only [zgm_0, zgm_1, zgm_2, zgm_3, zgm_4, zgm_5, zgm_6, zgm_7, zgm_8, zgm_9, zgm_10, zgm_11, zgm_12, zgm_13, zgm_14, zgm_15, zgm_16, zgm_17, zgm_18, zgm_19, zgm_20, zgm_21, zgm_22, zgm_23, zgm_24, zgm_25, zgm_26, zgm_27, zgm_28, zgm_29, zgm_30, zgm_31, zgm_32, zgm_33, zgm_34, zgm_35, zgm_36, zgm_37, zpm_4, zpm_5, zpm_6, zpm_7, zpm_8, zpm_9, zpm_10, zpm_11, zpm_12, zpm_13, zpm_14, zpm_15, zpm_16, zpm_17, zpm_18, zpm_22, zpm_23, zpm_31, zpm_32, zpm_36, zis_mo, zuN_eq, zuN_ne, zen_207, e_207_0, e_207_1, e_207_2, e_207_3, e_207_4, e_207_5, e_207_6, e_207_9t, e_207_9f, e_207_12, e_207_13, e_207_16, e_207_17, e_207_18, e_207_19, e_207_20, e_207_21, e_207_22, e_207_23t, e_207_23f, e_207_26, e_207_27, e_207_30, e_207_31, e_207_34, e_207_36, e_207_37, e_207_40, e_207_41, e_207_42, e_207_43, e_207_44, e_207_45, e_207_46, e_207_47, e_207_48, e_207_49, e_207_51, e_207_53, e_207_54, e_207_57, e_207_58, e_207_59t, e_207_59f, e_207_62, e_207_63, e_207_66, e_207_67, e_207_68, e_207_71, e_207_73, e_207_76, e_207_79, e_207_80, e_207_82, e_207_83, e_207_85, e_207_86, e_207_89, e_207_90, e_207_91, e_207_92, e_207_93, e_207_94, e_207_95, e_207_96, e_207_97, e_207_100, e_207_101, e_207_102t, e_207_102f, e_207_105, e_207_107, e_207_108, e_207_111, e_207_114, e_207_115, zPa_some, zPn_some, zRK_some, zRK_none, zCk_t, zis_ob, zget_set_eq, zget_set_ne, zAld_10, zAld_11, zAst_10, zAst_11, zAlen_10, zAlen_11, zbd_t, zbd_f, zb_t, zb_f, zset_set, s_one0, s_one1, zis_so, x0, x2, x5, x8, gm, q2, m6]
    by_cases cf : R 12 m < enS R p y m
    · have el : laE R p y (m :: suf) = 99 := by rw [laE_cons hy99, if_pos cf]
      rw [el]
      refine ⟨_, _, fun d K => ?_, z, zFp_set (by omega), fun j hj => ?_, fun q => absurd rfl q⟩
      · rw [step d K]
        simp (disch := omega) only [zgm_0, zgm_1, zgm_2, zgm_3, zgm_4, zgm_5, zgm_6, zgm_7, zgm_8, zgm_9, zgm_10, zgm_11, zgm_12, zgm_13, zgm_14, zgm_15, zgm_16, zgm_17, zgm_18, zgm_19, zgm_20, zgm_21, zgm_22, zgm_23, zgm_24, zgm_25, zgm_26, zgm_27, zgm_28, zgm_29, zgm_30, zgm_31, zgm_32, zgm_33, zgm_34, zgm_35, zgm_36, zgm_37, zpm_4, zpm_5, zpm_6, zpm_7, zpm_8, zpm_9, zpm_10, zpm_11, zpm_12, zpm_13, zpm_14, zpm_15, zpm_16, zpm_17, zpm_18, zpm_22, zpm_23, zpm_31, zpm_32, zpm_36, zis_mo, zuN_eq, zuN_ne, zen_207, e_207_0, e_207_1, e_207_2, e_207_3, e_207_4, e_207_5, e_207_6, e_207_9t, e_207_9f, e_207_12, e_207_13, e_207_16, e_207_17, e_207_18, e_207_19, e_207_20, e_207_21, e_207_22, e_207_23t, e_207_23f, e_207_26, e_207_27, e_207_30, e_207_31, e_207_34, e_207_36, e_207_37, e_207_40, e_207_41, e_207_42, e_207_43, e_207_44, e_207_45, e_207_46, e_207_47, e_207_48, e_207_49, e_207_51, e_207_53, e_207_54, e_207_57, e_207_58, e_207_59t, e_207_59f, e_207_62, e_207_63, e_207_66, e_207_67, e_207_68, e_207_71, e_207_73, e_207_75, e_207_76, e_207_79, e_207_80, e_207_82, e_207_83, e_207_85, e_207_86, e_207_89, e_207_90, e_207_91, e_207_92, e_207_93, e_207_94, e_207_95, e_207_96, e_207_97, e_207_100, e_207_101, e_207_102t, e_207_102f, e_207_105, e_207_107, e_207_108, e_207_111, e_207_114, e_207_115, zPa_some, zPn_some, zRK_some, zRK_none, zCk_t, zis_ob, zget_set_eq, zget_set_ne, zAld_10, zAld_11, zAst_10, zAst_11, zAlen_10, zAlen_11, zbd_t, zbd_f, zb_t, zb_f, zset_set, s_one0, s_one1, zis_so, x0, x3, x4, x9, ed]
      · unfold zu
        rw [if_neg (fun q => hj (by rw [q]; exact List.mem_cons_self))]
    · have el : laE R p y (m :: suf) = laE R m (enS R p y m) suf := by rw [laE_cons hy99, if_neg cf]
      rw [el]
      obtain ⟨M', bg', a1, a2, a3, a4, a5⟩ := ih (i + 1) m (enS R p y m) _ _ (some (.int (zi m))) (some (.int (zi (skS R p y m)))) z (fun j h1 h2 => by
        have := hg (j + 1) (by omega) (by rw [List.length_cons]; omega)
        rw [lst_tail h1, show i + (j + 1) = i + 1 + j by omega] at this
        exact this) (by omega) (Or.inr ⟨by omega, by rw [show i + 1 - 1 = i by omega]; exact gm, hm.1, hm.2, by omega, by omega⟩) (fun j hj => hl j (List.mem_cons_of_mem _ hj))
      refine ⟨M', bg', fun d K => ?_, a2, zFp_trans (zFp_set (by omega)) a3, fun j hj => ?_, fun q j => ?_⟩
      · rw [step d K, ← a1 d K]
        simp (disch := omega) only [zgm_0, zgm_1, zgm_2, zgm_3, zgm_4, zgm_5, zgm_6, zgm_7, zgm_8, zgm_9, zgm_10, zgm_11, zgm_12, zgm_13, zgm_14, zgm_15, zgm_16, zgm_17, zgm_18, zgm_19, zgm_20, zgm_21, zgm_22, zgm_23, zgm_24, zgm_25, zgm_26, zgm_27, zgm_28, zgm_29, zgm_30, zgm_31, zgm_32, zgm_33, zgm_34, zgm_35, zgm_36, zgm_37, zpm_4, zpm_5, zpm_6, zpm_7, zpm_8, zpm_9, zpm_10, zpm_11, zpm_12, zpm_13, zpm_14, zpm_15, zpm_16, zpm_17, zpm_18, zpm_22, zpm_23, zpm_31, zpm_32, zpm_36, zis_mo, zuN_eq, zuN_ne, zen_207, e_207_0, e_207_1, e_207_2, e_207_3, e_207_4, e_207_5, e_207_6, e_207_12, e_207_13, e_207_16, e_207_17, e_207_18, e_207_19, e_207_20, e_207_21, e_207_22, e_207_23t, e_207_23f, e_207_26, e_207_27, e_207_30, e_207_31, e_207_34, e_207_36, e_207_37, e_207_40, e_207_41, e_207_42, e_207_43, e_207_44, e_207_45, e_207_46, e_207_47, e_207_48, e_207_49, e_207_51, e_207_53, e_207_54, e_207_57, e_207_58, e_207_59t, e_207_59f, e_207_62, e_207_63, e_207_66, e_207_67, e_207_68, e_207_71, e_207_73, e_207_75, e_207_76, e_207_79, e_207_80, e_207_82, e_207_83, e_207_85, e_207_86, e_207_89, e_207_90, e_207_91, e_207_92, e_207_93, e_207_94, e_207_95, e_207_96, e_207_97, e_207_100, e_207_101, e_207_102t, e_207_102f, e_207_105, e_207_107, e_207_108, e_207_111, e_207_114, e_207_115, zPa_some, zPn_some, zRK_some, zRK_none, zCk_t, zis_ob, zget_set_eq, zget_set_ne, zAld_10, zAld_11, zAst_10, zAst_11, zAlen_10, zAlen_11, zbd_t, zbd_f, zb_t, zb_f, zset_set, s_one0, s_one1, zis_so, x0, x3, x4, x9, ed, hwk]
      · rw [a4 j (fun q => hj (List.mem_cons_of_mem _ q))]
        unfold zu
        rw [if_neg (fun q => hj (by rw [q]; exact List.mem_cons_self))]
      · exact a5 q j
theorem s_latestM (rm : RM R D) {w : Nat → Int} {g bg : Int → Int} {M : zM} {L : List Int} (x : PN c w R D wh bw g bg M) (a : AG g L) (hk : w 36 = L.length) (h6 : L.length ≤ 6) (hl : ∀ m, m ∈ L → 0 ≤ m ∧ m < 6) : ∃ M' bg', (∀ (d : Nat) (K : zK), zC (d + 1) 207 [.ref c] M K = K (some (.int (zi (la R L)))) M') ∧ PN c w R D wh bw g bg' M' ∧ zFp c M M' ∧ (∀ j, ¬ j ∈ L → bg' j = bg j) ∧ (la R L ≠ 99 → ∀ j, bg' j = sgS R (-1) (-1) L bg j) := by
  obtain ⟨M', bg', a1, a2, a3, a4, a5⟩ := lm_207 rm L.length (by omega) hk L 0 (-1) (-1) bg M none none x (fun j h1 h2 => by rw [Int.zero_add]; exact a j h1 h2) (by omega) (Or.inl ⟨rfl, rfl, rfl⟩) hl
  refine ⟨M', bg', fun d K => ?_, a2, a3, a4, a5⟩
  have x0 := x.1
  have e : la R L = laE R (-1) (-1) L := rfl
  rw [e, ← a1 d K]
  simp (disch := omega) only [zgm_0, zgm_1, zgm_2, zgm_3, zgm_4, zgm_5, zgm_6, zgm_7, zgm_8, zgm_9, zgm_10, zgm_11, zgm_12, zgm_13, zgm_14, zgm_15, zgm_16, zgm_17, zgm_18, zgm_19, zgm_20, zgm_21, zgm_22, zgm_23, zgm_24, zgm_25, zgm_26, zgm_27, zgm_28, zgm_29, zgm_30, zgm_31, zgm_32, zgm_33, zgm_34, zgm_35, zgm_36, zgm_37, zpm_4, zpm_5, zpm_6, zpm_7, zpm_8, zpm_9, zpm_10, zpm_11, zpm_12, zpm_13, zpm_14, zpm_15, zpm_16, zpm_17, zpm_18, zpm_22, zpm_23, zpm_31, zpm_32, zpm_36, zis_mo, zuN_eq, zuN_ne, zen_207, e_207_0, e_207_1, e_207_2, e_207_3, e_207_4, e_207_5, e_207_6, e_207_12, e_207_13, e_207_16, e_207_17, e_207_18, e_207_19, e_207_20, e_207_21, e_207_22, e_207_23t, e_207_23f, e_207_26, e_207_27, e_207_30, e_207_31, e_207_34, e_207_36, e_207_37, e_207_40, e_207_41, e_207_42, e_207_43, e_207_44, e_207_45, e_207_46, e_207_47, e_207_48, e_207_49, e_207_51, e_207_53, e_207_54, e_207_57, e_207_58, e_207_59t, e_207_59f, e_207_62, e_207_63, e_207_66, e_207_67, e_207_68, e_207_71, e_207_73, e_207_75, e_207_76, e_207_79, e_207_80, e_207_82, e_207_83, e_207_85, e_207_86, e_207_89, e_207_90, e_207_91, e_207_92, e_207_93, e_207_94, e_207_95, e_207_96, e_207_97, e_207_100, e_207_101, e_207_102t, e_207_102f, e_207_105, e_207_107, e_207_108, e_207_111, e_207_114, e_207_115, zPa_some, zPn_some, zRK_some, zRK_none, zCk_t, zis_ob, zget_set_eq, zget_set_ne, zAld_10, zAld_11, zAst_10, zAst_11, zAlen_10, zAlen_11, zbd_t, zbd_f, zb_t, zb_f, zset_set, s_one0, s_one1, zis_so, x0, hk]
theorem s_swap {w : Nat → Int} {g bg : Int → Int} {M : zM} (x : PN c w R D wh bw g bg M) : ∀ (d : Nat) (i j : Int) (K : zK), (0 ≤ i ∧ i < 6 ∧ 0 ≤ j ∧ j < 6) → zC (d + 1) 209 [.ref c, .int (zi i), .int (zi j)] M K = K none (zset M (c + 17) (zA 10 6 (swN g i j))) := by
  intro d i j K h
  obtain ⟨x0, x1, x2, x3, x4, x5, x6, x7, x8, x9⟩ := x
  unfold swN
  simp (disch := omega) only [zgm_0, zgm_1, zgm_2, zgm_3, zgm_4, zgm_5, zgm_6, zgm_7, zgm_8, zgm_9, zgm_10, zgm_11, zgm_12, zgm_13, zgm_14, zgm_15, zgm_16, zgm_17, zgm_18, zgm_19, zgm_20, zgm_21, zgm_22, zgm_23, zgm_24, zgm_25, zgm_26, zgm_27, zgm_28, zgm_29, zgm_30, zgm_31, zgm_32, zgm_33, zgm_34, zgm_35, zgm_36, zgm_37, zpm_4, zpm_5, zpm_6, zpm_7, zpm_8, zpm_9, zpm_10, zpm_11, zpm_12, zpm_13, zpm_14, zpm_15, zpm_16, zpm_17, zpm_18, zpm_22, zpm_23, zpm_31, zpm_32, zpm_36, zis_mo, zuN_eq, zuN_ne, zen_209, e_209_0, e_209_1, e_209_4, e_209_5, e_209_6, e_209_7, e_209_8, e_209_11, e_209_12, e_209_13, e_209_16, e_209_17, e_209_18, e_209_19, e_209_20, e_209_23, e_209_24, e_209_25, e_209_26, zPa_some, zPn_some, zRK_some, zRK_none, zCk_t, zis_ob, zget_set_eq, zget_set_ne, zAld_10, zAld_11, zAst_10, zAst_11, zAlen_10, zAlen_11, zbd_t, zbd_f, zb_t, zb_f, zset_set, s_one0, s_one1, zis_so, x0, x8]
theorem lm_208a {w : Nat → Int} {g bg : Int → Int} {M : zM} (x : PN c w R D wh bw g bg M) (k : Int) (hk : 0 ≤ k ∧ k ≤ 6) (hg : ∀ j, 0 ≤ j → j < k → 0 ≤ g j ∧ g j < 6) (u2 u3 u4 : Option Value) : ∀ (n : Nat) (i : Int), i + 1 ≤ n → -2 ≤ i ∧ i + 2 ≤ k → ∀ (d : Nat) (K : zK), Ev d 208 8 [some (.ref c), some (.int (zi i)), u2, u3, u4] [.int (zi i)] M K = Ev d 208 34 [some (.ref c), some (.int (zi (fiN n g i))), u2, u3, u4] [] M K := by
  intro n
  obtain ⟨x0, x1, x2, x3, x4, x5, x6, x7, x8, x9⟩ := x
  induction n with
  | zero =>
    intro i hi h d K
    rw [show fiN 0 g i = i from rfl]
    simp (disch := omega) only [zgm_0, zgm_1, zgm_2, zgm_3, zgm_4, zgm_5, zgm_6, zgm_7, zgm_8, zgm_9, zgm_10, zgm_11, zgm_12, zgm_13, zgm_14, zgm_15, zgm_16, zgm_17, zgm_18, zgm_19, zgm_20, zgm_21, zgm_22, zgm_23, zgm_24, zgm_25, zgm_26, zgm_27, zgm_28, zgm_29, zgm_30, zgm_31, zgm_32, zgm_33, zgm_34, zgm_35, zgm_36, zgm_37, zpm_4, zpm_5, zpm_6, zpm_7, zpm_8, zpm_9, zpm_10, zpm_11, zpm_12, zpm_13, zpm_14, zpm_15, zpm_16, zpm_17, zpm_18, zpm_22, zpm_23, zpm_31, zpm_32, zpm_36, zis_mo, zuN_eq, zuN_ne, zen_208, e_208_0, e_208_1, e_208_4, e_208_5, e_208_6, e_208_7, e_208_8t, e_208_8f, e_208_11, e_208_12, e_208_15, e_208_16, e_208_17, e_208_18, e_208_21, e_208_22, e_208_23, e_208_24, e_208_25t, e_208_25f, e_208_28, e_208_31, e_208_35t, e_208_35f, e_208_38, e_208_39, e_208_40, e_208_41, e_208_44, e_208_45, e_208_46, e_208_47, e_208_48, e_208_51, e_208_52, e_208_53, e_208_54, e_208_57, e_208_58, e_208_59t, e_208_59f, e_208_62, e_208_65, e_208_68, e_208_69, e_208_70, e_208_71, e_208_74, e_208_75, e_208_76, e_208_77, e_208_78, e_208_79, e_208_82, e_208_83, e_208_84, e_208_86, e_208_87, e_208_89t, e_208_89f, e_208_92, e_208_93, e_208_94, e_208_96, e_208_99, e_208_102, e_208_105, e_208_108, e_208_109, zPa_some, zPn_some, zRK_some, zRK_none, zCk_t, zis_ob, zget_set_eq, zget_set_ne, zAld_10, zAld_11, zAst_10, zAst_11, zAlen_10, zAlen_11, zbd_t, zbd_f, zb_t, zb_f, zset_set, s_one0, s_one1, zis_so]
  | succ n ih =>
    intro i hi h d K
    unfold fiN
    by_cases c1 : 0 ≤ i
    · rw [if_pos c1]
      have g1 := hg i c1 (by omega)
      have g2 := hg (i + 1) (by omega) (by omega)
      by_cases c2 : g (i + 1) < g i
      · rw [if_pos c2, ← ih (i - 1) (by omega) (by omega) d K]
        simp (disch := omega) only [zgm_0, zgm_1, zgm_2, zgm_3, zgm_4, zgm_5, zgm_6, zgm_7, zgm_8, zgm_9, zgm_10, zgm_11, zgm_12, zgm_13, zgm_14, zgm_15, zgm_16, zgm_17, zgm_18, zgm_19, zgm_20, zgm_21, zgm_22, zgm_23, zgm_24, zgm_25, zgm_26, zgm_27, zgm_28, zgm_29, zgm_30, zgm_31, zgm_32, zgm_33, zgm_34, zgm_35, zgm_36, zgm_37, zpm_4, zpm_5, zpm_6, zpm_7, zpm_8, zpm_9, zpm_10, zpm_11, zpm_12, zpm_13, zpm_14, zpm_15, zpm_16, zpm_17, zpm_18, zpm_22, zpm_23, zpm_31, zpm_32, zpm_36, zis_mo, zuN_eq, zuN_ne, zen_208, e_208_0, e_208_1, e_208_4, e_208_5, e_208_6, e_208_7, e_208_8t, e_208_8f, e_208_11, e_208_12, e_208_15, e_208_16, e_208_17, e_208_18, e_208_21, e_208_22, e_208_23, e_208_24, e_208_25t, e_208_25f, e_208_28, e_208_31, e_208_35t, e_208_35f, e_208_38, e_208_39, e_208_40, e_208_41, e_208_44, e_208_45, e_208_46, e_208_47, e_208_48, e_208_51, e_208_52, e_208_53, e_208_54, e_208_57, e_208_58, e_208_59t, e_208_59f, e_208_62, e_208_65, e_208_68, e_208_69, e_208_70, e_208_71, e_208_74, e_208_75, e_208_76, e_208_77, e_208_78, e_208_79, e_208_82, e_208_83, e_208_84, e_208_86, e_208_87, e_208_89t, e_208_89f, e_208_92, e_208_93, e_208_94, e_208_96, e_208_99, e_208_102, e_208_105, e_208_108, e_208_109, zPa_some, zPn_some, zRK_some, zRK_none, zCk_t, zis_ob, zget_set_eq, zget_set_ne, zAld_10, zAld_11, zAst_10, zAst_11, zAlen_10, zAlen_11, zbd_t, zbd_f, zb_t, zb_f, zset_set, s_one0, s_one1, zis_so, x0, x8]
        try rw [show i + -1 = i - 1 by omega]
      · rw [if_neg c2]
        simp (disch := omega) only [zgm_0, zgm_1, zgm_2, zgm_3, zgm_4, zgm_5, zgm_6, zgm_7, zgm_8, zgm_9, zgm_10, zgm_11, zgm_12, zgm_13, zgm_14, zgm_15, zgm_16, zgm_17, zgm_18, zgm_19, zgm_20, zgm_21, zgm_22, zgm_23, zgm_24, zgm_25, zgm_26, zgm_27, zgm_28, zgm_29, zgm_30, zgm_31, zgm_32, zgm_33, zgm_34, zgm_35, zgm_36, zgm_37, zpm_4, zpm_5, zpm_6, zpm_7, zpm_8, zpm_9, zpm_10, zpm_11, zpm_12, zpm_13, zpm_14, zpm_15, zpm_16, zpm_17, zpm_18, zpm_22, zpm_23, zpm_31, zpm_32, zpm_36, zis_mo, zuN_eq, zuN_ne, zen_208, e_208_0, e_208_1, e_208_4, e_208_5, e_208_6, e_208_7, e_208_8t, e_208_8f, e_208_11, e_208_12, e_208_15, e_208_16, e_208_17, e_208_18, e_208_21, e_208_22, e_208_23, e_208_24, e_208_25t, e_208_25f, e_208_28, e_208_31, e_208_35t, e_208_35f, e_208_38, e_208_39, e_208_40, e_208_41, e_208_44, e_208_45, e_208_46, e_208_47, e_208_48, e_208_51, e_208_52, e_208_53, e_208_54, e_208_57, e_208_58, e_208_59t, e_208_59f, e_208_62, e_208_65, e_208_68, e_208_69, e_208_70, e_208_71, e_208_74, e_208_75, e_208_76, e_208_77, e_208_78, e_208_79, e_208_82, e_208_83, e_208_84, e_208_86, e_208_87, e_208_89t, e_208_89f, e_208_92, e_208_93, e_208_94, e_208_96, e_208_99, e_208_102, e_208_105, e_208_108, e_208_109, zPa_some, zPn_some, zRK_some, zRK_none, zCk_t, zis_ob, zget_set_eq, zget_set_ne, zAld_10, zAld_11, zAst_10, zAst_11, zAlen_10, zAlen_11, zbd_t, zbd_f, zb_t, zb_f, zset_set, s_one0, s_one1, zis_so, x0, x8]
    · rw [if_neg c1]
      simp (disch := omega) only [zgm_0, zgm_1, zgm_2, zgm_3, zgm_4, zgm_5, zgm_6, zgm_7, zgm_8, zgm_9, zgm_10, zgm_11, zgm_12, zgm_13, zgm_14, zgm_15, zgm_16, zgm_17, zgm_18, zgm_19, zgm_20, zgm_21, zgm_22, zgm_23, zgm_24, zgm_25, zgm_26, zgm_27, zgm_28, zgm_29, zgm_30, zgm_31, zgm_32, zgm_33, zgm_34, zgm_35, zgm_36, zgm_37, zpm_4, zpm_5, zpm_6, zpm_7, zpm_8, zpm_9, zpm_10, zpm_11, zpm_12, zpm_13, zpm_14, zpm_15, zpm_16, zpm_17, zpm_18, zpm_22, zpm_23, zpm_31, zpm_32, zpm_36, zis_mo, zuN_eq, zuN_ne, zen_208, e_208_0, e_208_1, e_208_4, e_208_5, e_208_6, e_208_7, e_208_8t, e_208_8f, e_208_11, e_208_12, e_208_15, e_208_16, e_208_17, e_208_18, e_208_21, e_208_22, e_208_23, e_208_24, e_208_25t, e_208_25f, e_208_28, e_208_31, e_208_35t, e_208_35f, e_208_38, e_208_39, e_208_40, e_208_41, e_208_44, e_208_45, e_208_46, e_208_47, e_208_48, e_208_51, e_208_52, e_208_53, e_208_54, e_208_57, e_208_58, e_208_59t, e_208_59f, e_208_62, e_208_65, e_208_68, e_208_69, e_208_70, e_208_71, e_208_74, e_208_75, e_208_76, e_208_77, e_208_78, e_208_79, e_208_82, e_208_83, e_208_84, e_208_86, e_208_87, e_208_89t, e_208_89f, e_208_92, e_208_93, e_208_94, e_208_96, e_208_99, e_208_102, e_208_105, e_208_108, e_208_109, zPa_some, zPn_some, zRK_some, zRK_none, zCk_t, zis_ob, zget_set_eq, zget_set_ne, zAld_10, zAld_11, zAst_10, zAst_11, zAlen_10, zAlen_11, zbd_t, zbd_f, zb_t, zb_f, zset_set, s_one0, s_one1, zis_so]
theorem lm_208b {w : Nat → Int} {g bg : Int → Int} {M : zM} (x : PN c w R D wh bw g bg M) (k i : Int) (hk : 0 ≤ k ∧ k ≤ 6) (hg : ∀ j, 0 ≤ j → j < k → 0 ≤ g j ∧ g j < 6) (hi : 0 ≤ i ∧ i + 2 ≤ k) (ho : g i ≤ g (i + 1)) (u3 u4 : Option Value) : ∀ (n : Nat) (j : Int), i + 1 ≤ j → j < k → j - i ≤ n → (i + 1 ≤ fjN n g (g i) j) ∧ ∀ (d : Nat) (K : zK), Ev d 208 47 [some (.ref c), some (.int (zi i)), some (.int (zi j)), u3, u4] [] M K = Ev d 208 68 [some (.ref c), some (.int (zi i)), some (.int (zi (fjN n g (g i) j))), u3, u4] [] M K := by
  intro n
  obtain ⟨x0, x1, x2, x3, x4, x5, x6, x7, x8, x9⟩ := x
  induction n with
  | zero => intro j h1 h2 h3; omega
  | succ n ih =>
    intro j h1 h2 h3
    have g1 := hg i (by omega) (by omega)
    have g2 := hg j (by omega) (by omega)
    unfold fjN
    rw [if_pos (by omega)]
    by_cases c2 : g j < g i
    · rw [if_pos c2]
      have hj : j ≠ i + 1 := fun q => by rw [q] at c2; omega
      obtain ⟨q1, q2⟩ := ih (j - 1) (by omega) (by omega) (by omega)
      refine ⟨q1, fun d K => ?_⟩
      rw [← q2 d K, e_208_47]
      simp (disch := omega) only [zgm_0, zgm_1, zgm_2, zgm_3, zgm_4, zgm_5, zgm_6, zgm_7, zgm_8, zgm_9, zgm_10, zgm_11, zgm_12, zgm_13, zgm_14, zgm_15, zgm_16, zgm_17, zgm_18, zgm_19, zgm_20, zgm_21, zgm_22, zgm_23, zgm_24, zgm_25, zgm_26, zgm_27, zgm_28, zgm_29, zgm_30, zgm_31, zgm_32, zgm_33, zgm_34, zgm_35, zgm_36, zgm_37, zpm_4, zpm_5, zpm_6, zpm_7, zpm_8, zpm_9, zpm_10, zpm_11, zpm_12, zpm_13, zpm_14, zpm_15, zpm_16, zpm_17, zpm_18, zpm_22, zpm_23, zpm_31, zpm_32, zpm_36, zis_mo, zuN_eq, zuN_ne, zen_208, e_208_0, e_208_1, e_208_4, e_208_5, e_208_6, e_208_7, e_208_8t, e_208_8f, e_208_11, e_208_12, e_208_15, e_208_16, e_208_17, e_208_18, e_208_21, e_208_22, e_208_23, e_208_24, e_208_25t, e_208_25f, e_208_28, e_208_31, e_208_34, e_208_35t, e_208_35f, e_208_38, e_208_39, e_208_40, e_208_41, e_208_44, e_208_45, e_208_46, e_208_48, e_208_51, e_208_52, e_208_53, e_208_54, e_208_57, e_208_58, e_208_59t, e_208_59f, e_208_62, e_208_65, e_208_69, e_208_70, e_208_71, e_208_74, e_208_75, e_208_76, e_208_77, e_208_78, e_208_79, e_208_82, e_208_83, e_208_84, e_208_86, e_208_87, e_208_89t, e_208_89f, e_208_92, e_208_93, e_208_94, e_208_96, e_208_99, e_208_102, e_208_105, e_208_108, e_208_109, zPa_some, zPn_some, zRK_some, zRK_none, zCk_t, zis_ob, zget_set_eq, zget_set_ne, zAld_10, zAld_11, zAst_10, zAst_11, zAlen_10, zAlen_11, zbd_t, zbd_f, zb_t, zb_f, zset_set, s_one0, s_one1, zis_so, x0, x8]
      try rw [show j + -1 = j - 1 by omega]
    · rw [if_neg c2]
      refine ⟨h1, fun d K => ?_⟩
      simp (disch := omega) only [zgm_0, zgm_1, zgm_2, zgm_3, zgm_4, zgm_5, zgm_6, zgm_7, zgm_8, zgm_9, zgm_10, zgm_11, zgm_12, zgm_13, zgm_14, zgm_15, zgm_16, zgm_17, zgm_18, zgm_19, zgm_20, zgm_21, zgm_22, zgm_23, zgm_24, zgm_25, zgm_26, zgm_27, zgm_28, zgm_29, zgm_30, zgm_31, zgm_32, zgm_33, zgm_34, zgm_35, zgm_36, zgm_37, zpm_4, zpm_5, zpm_6, zpm_7, zpm_8, zpm_9, zpm_10, zpm_11, zpm_12, zpm_13, zpm_14, zpm_15, zpm_16, zpm_17, zpm_18, zpm_22, zpm_23, zpm_31, zpm_32, zpm_36, zis_mo, zuN_eq, zuN_ne, zen_208, e_208_0, e_208_1, e_208_4, e_208_5, e_208_6, e_208_7, e_208_8t, e_208_8f, e_208_11, e_208_12, e_208_15, e_208_16, e_208_17, e_208_18, e_208_21, e_208_22, e_208_23, e_208_24, e_208_25t, e_208_25f, e_208_28, e_208_31, e_208_34, e_208_35t, e_208_35f, e_208_38, e_208_39, e_208_40, e_208_41, e_208_44, e_208_45, e_208_46, e_208_47, e_208_48, e_208_51, e_208_52, e_208_53, e_208_54, e_208_57, e_208_58, e_208_59t, e_208_59f, e_208_62, e_208_65, e_208_69, e_208_70, e_208_71, e_208_74, e_208_75, e_208_76, e_208_77, e_208_78, e_208_79, e_208_82, e_208_83, e_208_84, e_208_86, e_208_87, e_208_89t, e_208_89f, e_208_92, e_208_93, e_208_94, e_208_96, e_208_99, e_208_102, e_208_105, e_208_108, e_208_109, zPa_some, zPn_some, zRK_some, zRK_none, zCk_t, zis_ob, zget_set_eq, zget_set_ne, zAld_10, zAld_11, zAst_10, zAst_11, zAlen_10, zAlen_11, zbd_t, zbd_f, zb_t, zb_f, zset_set, s_one0, s_one1, zis_so, x0, x8]
theorem lm_208c {w : Nat → Int} {bg : Int → Int} (k : Int) (hk : 0 ≤ k ∧ k ≤ 6) (i j : Int) : ∀ (n : Nat) (a b' : Int) (g : Int → Int) (M : zM), PN c w R D wh bw g bg M → 0 ≤ a → a ≤ 6 → -1 ≤ b' → b' < k → b' - a ≤ n → ∃ M', (∀ (d : Nat) (K : zK), Ev (d + 1) 208 89 [some (.ref c), some (.int (zi i)), some (.int (zi j)), some (.int (zi a)), some (.int (zi b'))] [.int (zi b'), .int (zi a)] M K = K (some (.int (zi 1))) M') ∧ PN c w R D wh bw (rvN n g a b') bg M' ∧ zFp c M M' := by
  intro n
  induction n with
  | zero =>
    intro a b' g M x h1 h2 h3 h4 h5
    refine ⟨M, fun d K => ?_, x, zFp_refl⟩
    simp (disch := omega) only [zgm_0, zgm_1, zgm_2, zgm_3, zgm_4, zgm_5, zgm_6, zgm_7, zgm_8, zgm_9, zgm_10, zgm_11, zgm_12, zgm_13, zgm_14, zgm_15, zgm_16, zgm_17, zgm_18, zgm_19, zgm_20, zgm_21, zgm_22, zgm_23, zgm_24, zgm_25, zgm_26, zgm_27, zgm_28, zgm_29, zgm_30, zgm_31, zgm_32, zgm_33, zgm_34, zgm_35, zgm_36, zgm_37, zpm_4, zpm_5, zpm_6, zpm_7, zpm_8, zpm_9, zpm_10, zpm_11, zpm_12, zpm_13, zpm_14, zpm_15, zpm_16, zpm_17, zpm_18, zpm_22, zpm_23, zpm_31, zpm_32, zpm_36, zis_mo, zuN_eq, zuN_ne, zen_208, e_208_0, e_208_1, e_208_4, e_208_5, e_208_6, e_208_7, e_208_8t, e_208_8f, e_208_11, e_208_12, e_208_15, e_208_16, e_208_17, e_208_18, e_208_21, e_208_22, e_208_23, e_208_24, e_208_25t, e_208_25f, e_208_28, e_208_31, e_208_34, e_208_35t, e_208_35f, e_208_38, e_208_39, e_208_40, e_208_41, e_208_44, e_208_45, e_208_46, e_208_47, e_208_48, e_208_51, e_208_52, e_208_53, e_208_54, e_208_57, e_208_58, e_208_59t, e_208_59f, e_208_62, e_208_65, e_208_68, e_208_69, e_208_70, e_208_71, e_208_74, e_208_75, e_208_76, e_208_77, e_208_78, e_208_79, e_208_82, e_208_83, e_208_84, e_208_86, e_208_87, e_208_89t, e_208_89f, e_208_92, e_208_93, e_208_94, e_208_96, e_208_99, e_208_102, e_208_105, e_208_108, e_208_109, zPa_some, zPn_some, zRK_some, zRK_none, zCk_t, zis_ob, zget_set_eq, zget_set_ne, zAld_10, zAld_11, zAst_10, zAst_11, zAlen_10, zAlen_11, zbd_t, zbd_f, zb_t, zb_f, zset_set, s_one0, s_one1, zis_so]
  | succ n ih =>
    intro a b' g M x h1 h2 h3 h4 h5
    unfold rvN
    by_cases c1 : a < b'
    · rw [if_pos c1]
      have es := s_swap x
      have y := PN_g (g' := swN g a b') x
      obtain ⟨M', q1, q2, q3⟩ := ih (a + 1) (b' - 1) _ _ y (by omega) (by omega) (by omega) (by omega) (by omega)
      refine ⟨M', fun d K => ?_, q2, zFp_trans (zFp_set (by omega)) q3⟩
      have x0 := x.1
      rw [← q1 d K]
      simp (disch := omega) only [zgm_0, zgm_1, zgm_2, zgm_3, zgm_4, zgm_5, zgm_6, zgm_7, zgm_8, zgm_9, zgm_10, zgm_11, zgm_12, zgm_13, zgm_14, zgm_15, zgm_16, zgm_17, zgm_18, zgm_19, zgm_20, zgm_21, zgm_22, zgm_23, zgm_24, zgm_25, zgm_26, zgm_27, zgm_28, zgm_29, zgm_30, zgm_31, zgm_32, zgm_33, zgm_34, zgm_35, zgm_36, zgm_37, zpm_4, zpm_5, zpm_6, zpm_7, zpm_8, zpm_9, zpm_10, zpm_11, zpm_12, zpm_13, zpm_14, zpm_15, zpm_16, zpm_17, zpm_18, zpm_22, zpm_23, zpm_31, zpm_32, zpm_36, zis_mo, zuN_eq, zuN_ne, zen_208, e_208_0, e_208_1, e_208_4, e_208_5, e_208_6, e_208_7, e_208_8t, e_208_8f, e_208_11, e_208_12, e_208_15, e_208_16, e_208_17, e_208_18, e_208_21, e_208_22, e_208_23, e_208_24, e_208_25t, e_208_25f, e_208_28, e_208_31, e_208_34, e_208_35t, e_208_35f, e_208_38, e_208_39, e_208_40, e_208_41, e_208_44, e_208_45, e_208_46, e_208_47, e_208_48, e_208_51, e_208_52, e_208_53, e_208_54, e_208_57, e_208_58, e_208_59t, e_208_59f, e_208_62, e_208_65, e_208_68, e_208_69, e_208_70, e_208_71, e_208_74, e_208_75, e_208_76, e_208_77, e_208_78, e_208_79, e_208_82, e_208_83, e_208_84, e_208_86, e_208_87, e_208_89t, e_208_89f, e_208_92, e_208_93, e_208_94, e_208_96, e_208_99, e_208_102, e_208_105, e_208_108, e_208_109, zPa_some, zPn_some, zRK_some, zRK_none, zCk_t, zis_ob, zget_set_eq, zget_set_ne, zAld_10, zAld_11, zAst_10, zAst_11, zAlen_10, zAlen_11, zbd_t, zbd_f, zb_t, zb_f, zset_set, s_one0, s_one1, zis_so, x0, es]
      try rw [show b' + -1 = b' - 1 by omega]
    · rw [if_neg c1]
      refine ⟨M, fun d K => ?_, x, zFp_refl⟩
      simp (disch := omega) only [zgm_0, zgm_1, zgm_2, zgm_3, zgm_4, zgm_5, zgm_6, zgm_7, zgm_8, zgm_9, zgm_10, zgm_11, zgm_12, zgm_13, zgm_14, zgm_15, zgm_16, zgm_17, zgm_18, zgm_19, zgm_20, zgm_21, zgm_22, zgm_23, zgm_24, zgm_25, zgm_26, zgm_27, zgm_28, zgm_29, zgm_30, zgm_31, zgm_32, zgm_33, zgm_34, zgm_35, zgm_36, zgm_37, zpm_4, zpm_5, zpm_6, zpm_7, zpm_8, zpm_9, zpm_10, zpm_11, zpm_12, zpm_13, zpm_14, zpm_15, zpm_16, zpm_17, zpm_18, zpm_22, zpm_23, zpm_31, zpm_32, zpm_36, zis_mo, zuN_eq, zuN_ne, zen_208, e_208_0, e_208_1, e_208_4, e_208_5, e_208_6, e_208_7, e_208_8t, e_208_8f, e_208_11, e_208_12, e_208_15, e_208_16, e_208_17, e_208_18, e_208_21, e_208_22, e_208_23, e_208_24, e_208_25t, e_208_25f, e_208_28, e_208_31, e_208_34, e_208_35t, e_208_35f, e_208_38, e_208_39, e_208_40, e_208_41, e_208_44, e_208_45, e_208_46, e_208_47, e_208_48, e_208_51, e_208_52, e_208_53, e_208_54, e_208_57, e_208_58, e_208_59t, e_208_59f, e_208_62, e_208_65, e_208_68, e_208_69, e_208_70, e_208_71, e_208_74, e_208_75, e_208_76, e_208_77, e_208_78, e_208_79, e_208_82, e_208_83, e_208_84, e_208_86, e_208_87, e_208_89t, e_208_89f, e_208_92, e_208_93, e_208_94, e_208_96, e_208_99, e_208_102, e_208_105, e_208_108, e_208_109, zPa_some, zPn_some, zRK_some, zRK_none, zCk_t, zis_ob, zget_set_eq, zget_set_ne, zAld_10, zAld_11, zAst_10, zAst_11, zAlen_10, zAlen_11, zbd_t, zbd_f, zb_t, zb_f, zset_set, s_one0, s_one1, zis_so]
theorem fiN_ge {g : Int → Int} : ∀ (n : Nat) (i : Int), -1 ≤ i → i + 1 ≤ n → -1 ≤ fiN n g i ∧ (0 ≤ fiN n g i → g (fiN n g i) ≤ g (fiN n g i + 1)) := by
  intro n
  induction n with
  | zero =>
    intro i h1 h2
    have : i = -1 := by omega
    subst this
    exact ⟨Int.le_refl _, fun q => by have q2 : (0 : Int) ≤ -1 := q; omega⟩
  | succ n ih =>
    intro i h1 h2
    unfold fiN
    by_cases c1 : 0 ≤ i
    · rw [if_pos c1]
      by_cases c2 : g (i + 1) < g i
      · rw [if_pos c2]
        exact ih (i - 1) (by omega) (by omega)
      · rw [if_neg c2]
        exact ⟨h1, fun _ => by omega⟩
    · rw [if_neg c1]
      exact ⟨h1, fun q => by omega⟩
theorem s_nextOrder {w : Nat → Int} {g bg : Int → Int} {M : zM} {k : Int} (x : PN c w R D wh bw g bg M) (hwk : w 36 = k) (hk : 0 ≤ k ∧ k ≤ 6) (hg : ∀ j, 0 ≤ j → j < k → 0 ≤ g j ∧ g j < 6) : (nxI k g < 0 → ∀ (d : Nat) (K : zK), zC (d + 3) 208 [.ref c] M K = K (some (.int (zi 0))) M) ∧ (0 ≤ nxI k g → 0 ≤ fjN 6 g (g (nxI k g)) (k - 1) ∧ ∃ M', (∀ (d : Nat) (K : zK), zC (d + 3) 208 [.ref c] M K = K (some (.int (zi 1))) M') ∧ PN c w R D wh bw (nxR k g) bg M' ∧ zFp c M M') := by
  have x0 := x.1
  have ea := fun u2 u3 u4 => lm_208a x k hk hg u2 u3 u4 6 (k - 2) (by omega) (by omega)
  have le1 : nxI k g ≤ k - 2 := fiN_le 6 _
  constructor
  · intro h d K
    have hn : -2 ≤ nxI k g := by
      by_cases q : k = 0
      · subst q
        show -2 ≤ fiN 6 g (0 - 2)
        unfold fiN
        rw [if_neg (by decide)]
        decide
      · have := (fiN_ge (g := g) 6 (k - 2) (by omega) (by omega)).1
        unfold nxI
        omega
    have ea' := ea none none none (d + 2) K
    rw [show fiN 6 g (k - 2) = nxI k g from rfl] at ea'
    simp (disch := omega) only [zgm_0, zgm_1, zgm_2, zgm_3, zgm_4, zgm_5, zgm_6, zgm_7, zgm_8, zgm_9, zgm_10, zgm_11, zgm_12, zgm_13, zgm_14, zgm_15, zgm_16, zgm_17, zgm_18, zgm_19, zgm_20, zgm_21, zgm_22, zgm_23, zgm_24, zgm_25, zgm_26, zgm_27, zgm_28, zgm_29, zgm_30, zgm_31, zgm_32, zgm_33, zgm_34, zgm_35, zgm_36, zgm_37, zpm_4, zpm_5, zpm_6, zpm_7, zpm_8, zpm_9, zpm_10, zpm_11, zpm_12, zpm_13, zpm_14, zpm_15, zpm_16, zpm_17, zpm_18, zpm_22, zpm_23, zpm_31, zpm_32, zpm_36, zis_mo, zuN_eq, zuN_ne, zen_208, e_208_0, e_208_1, e_208_4, e_208_5, e_208_6, e_208_7, e_208_11, e_208_12, e_208_15, e_208_16, e_208_17, e_208_18, e_208_21, e_208_22, e_208_23, e_208_24, e_208_25t, e_208_25f, e_208_28, e_208_31, e_208_35t, e_208_35f, e_208_38, e_208_39, e_208_40, e_208_41, e_208_44, e_208_45, e_208_46, e_208_47, e_208_48, e_208_51, e_208_52, e_208_53, e_208_54, e_208_57, e_208_58, e_208_59t, e_208_59f, e_208_62, e_208_65, e_208_68, e_208_69, e_208_70, e_208_71, e_208_74, e_208_75, e_208_76, e_208_77, e_208_78, e_208_79, e_208_82, e_208_83, e_208_84, e_208_86, e_208_87, e_208_89t, e_208_89f, e_208_92, e_208_93, e_208_94, e_208_96, e_208_99, e_208_102, e_208_105, e_208_108, e_208_109, zPa_some, zPn_some, zRK_some, zRK_none, zCk_t, zis_ob, zget_set_eq, zget_set_ne, zAld_10, zAld_11, zAst_10, zAst_11, zAlen_10, zAlen_11, zbd_t, zbd_f, zb_t, zb_f, zset_set, s_one0, s_one1, zis_so, x0, hwk]
    rw [ea']
    simp (disch := omega) only [zgm_0, zgm_1, zgm_2, zgm_3, zgm_4, zgm_5, zgm_6, zgm_7, zgm_8, zgm_9, zgm_10, zgm_11, zgm_12, zgm_13, zgm_14, zgm_15, zgm_16, zgm_17, zgm_18, zgm_19, zgm_20, zgm_21, zgm_22, zgm_23, zgm_24, zgm_25, zgm_26, zgm_27, zgm_28, zgm_29, zgm_30, zgm_31, zgm_32, zgm_33, zgm_34, zgm_35, zgm_36, zgm_37, zpm_4, zpm_5, zpm_6, zpm_7, zpm_8, zpm_9, zpm_10, zpm_11, zpm_12, zpm_13, zpm_14, zpm_15, zpm_16, zpm_17, zpm_18, zpm_22, zpm_23, zpm_31, zpm_32, zpm_36, zis_mo, zuN_eq, zuN_ne, zen_208, e_208_0, e_208_1, e_208_4, e_208_5, e_208_6, e_208_7, e_208_11, e_208_12, e_208_15, e_208_16, e_208_17, e_208_18, e_208_21, e_208_22, e_208_23, e_208_24, e_208_25t, e_208_25f, e_208_28, e_208_31, e_208_34, e_208_35t, e_208_35f, e_208_38, e_208_39, e_208_40, e_208_41, e_208_44, e_208_45, e_208_46, e_208_47, e_208_48, e_208_51, e_208_52, e_208_53, e_208_54, e_208_57, e_208_58, e_208_59t, e_208_59f, e_208_62, e_208_65, e_208_68, e_208_69, e_208_70, e_208_71, e_208_74, e_208_75, e_208_76, e_208_77, e_208_78, e_208_79, e_208_82, e_208_83, e_208_84, e_208_86, e_208_87, e_208_89t, e_208_89f, e_208_92, e_208_93, e_208_94, e_208_96, e_208_99, e_208_102, e_208_105, e_208_108, e_208_109, zPa_some, zPn_some, zRK_some, zRK_none, zCk_t, zis_ob, zget_set_eq, zget_set_ne, zAld_10, zAld_11, zAst_10, zAst_11, zAlen_10, zAlen_11, zbd_t, zbd_f, zb_t, zb_f, zset_set, s_one0, s_one1, zis_so]
  · intro h
    have k2 : 2 ≤ k := by omega
    have go := (fiN_ge (g := g) 6 (k - 2) (by omega) (by omega)).2 h
    obtain ⟨j1, eb⟩ := lm_208b x k (nxI k g) hk hg (by omega) go none none 6 (k - 1) (by omega) (by omega) (by omega)
    have jle := fjN_le (g := g) (p := g (nxI k g)) 6 (k - 1)
    have es := s_swap x
    have y := PN_g (g' := swN g (nxI k g) (fjN 6 g (g (nxI k g)) (k - 1))) x
    obtain ⟨M', q1, q2, q3⟩ := lm_208c (c := c) (R := R) (D := D) (wh := wh) (bw := bw) (w := w) (bg := bg) k hk (nxI k g) (fjN 6 g (g (nxI k g)) (k - 1)) 6 (nxI k g + 1) (k - 1) _ _ y (by omega) (by omega) (by omega) (by omega) (by omega)
    refine ⟨by omega, M', fun d K => ?_, q2, zFp_trans (zFp_set (by omega)) q3⟩
    have ea' := ea none none none (d + 2) K
    rw [show fiN 6 g (k - 2) = nxI k g from rfl] at ea'
    have y0 := y.1
    simp (disch := omega) only [zgm_0, zgm_1, zgm_2, zgm_3, zgm_4, zgm_5, zgm_6, zgm_7, zgm_8, zgm_9, zgm_10, zgm_11, zgm_12, zgm_13, zgm_14, zgm_15, zgm_16, zgm_17, zgm_18, zgm_19, zgm_20, zgm_21, zgm_22, zgm_23, zgm_24, zgm_25, zgm_26, zgm_27, zgm_28, zgm_29, zgm_30, zgm_31, zgm_32, zgm_33, zgm_34, zgm_35, zgm_36, zgm_37, zpm_4, zpm_5, zpm_6, zpm_7, zpm_8, zpm_9, zpm_10, zpm_11, zpm_12, zpm_13, zpm_14, zpm_15, zpm_16, zpm_17, zpm_18, zpm_22, zpm_23, zpm_31, zpm_32, zpm_36, zis_mo, zuN_eq, zuN_ne, zen_208, e_208_0, e_208_1, e_208_4, e_208_5, e_208_6, e_208_7, e_208_11, e_208_12, e_208_15, e_208_16, e_208_17, e_208_18, e_208_21, e_208_22, e_208_23, e_208_24, e_208_25t, e_208_25f, e_208_28, e_208_31, e_208_35t, e_208_35f, e_208_38, e_208_39, e_208_40, e_208_41, e_208_44, e_208_45, e_208_46, e_208_47, e_208_48, e_208_51, e_208_52, e_208_53, e_208_54, e_208_57, e_208_58, e_208_59t, e_208_59f, e_208_62, e_208_65, e_208_68, e_208_69, e_208_70, e_208_71, e_208_74, e_208_75, e_208_76, e_208_77, e_208_78, e_208_79, e_208_82, e_208_83, e_208_84, e_208_86, e_208_87, e_208_89t, e_208_89f, e_208_92, e_208_93, e_208_94, e_208_96, e_208_99, e_208_102, e_208_105, e_208_108, e_208_109, zPa_some, zPn_some, zRK_some, zRK_none, zCk_t, zis_ob, zget_set_eq, zget_set_ne, zAld_10, zAld_11, zAst_10, zAst_11, zAlen_10, zAlen_11, zbd_t, zbd_f, zb_t, zb_f, zset_set, s_one0, s_one1, zis_so, x0, hwk]
    rw [ea']
    simp (disch := omega) only [zgm_0, zgm_1, zgm_2, zgm_3, zgm_4, zgm_5, zgm_6, zgm_7, zgm_8, zgm_9, zgm_10, zgm_11, zgm_12, zgm_13, zgm_14, zgm_15, zgm_16, zgm_17, zgm_18, zgm_19, zgm_20, zgm_21, zgm_22, zgm_23, zgm_24, zgm_25, zgm_26, zgm_27, zgm_28, zgm_29, zgm_30, zgm_31, zgm_32, zgm_33, zgm_34, zgm_35, zgm_36, zgm_37, zpm_4, zpm_5, zpm_6, zpm_7, zpm_8, zpm_9, zpm_10, zpm_11, zpm_12, zpm_13, zpm_14, zpm_15, zpm_16, zpm_17, zpm_18, zpm_22, zpm_23, zpm_31, zpm_32, zpm_36, zis_mo, zuN_eq, zuN_ne, zen_208, e_208_0, e_208_1, e_208_4, e_208_5, e_208_6, e_208_7, e_208_11, e_208_12, e_208_15, e_208_16, e_208_17, e_208_18, e_208_21, e_208_22, e_208_23, e_208_24, e_208_25t, e_208_25f, e_208_28, e_208_31, e_208_34, e_208_35t, e_208_35f, e_208_38, e_208_39, e_208_40, e_208_41, e_208_44, e_208_45, e_208_46, e_208_48, e_208_51, e_208_52, e_208_53, e_208_54, e_208_57, e_208_58, e_208_59t, e_208_59f, e_208_62, e_208_65, e_208_68, e_208_69, e_208_70, e_208_71, e_208_74, e_208_75, e_208_76, e_208_77, e_208_78, e_208_79, e_208_82, e_208_83, e_208_84, e_208_86, e_208_87, e_208_89t, e_208_89f, e_208_92, e_208_93, e_208_94, e_208_96, e_208_99, e_208_102, e_208_105, e_208_108, e_208_109, zPa_some, zPn_some, zRK_some, zRK_none, zCk_t, zis_ob, zget_set_eq, zget_set_ne, zAld_10, zAld_11, zAst_10, zAst_11, zAlen_10, zAlen_11, zbd_t, zbd_f, zb_t, zb_f, zset_set, s_one0, s_one1, zis_so, x0, hwk]
    rw [eb]
    simp (disch := omega) only [zgm_0, zgm_1, zgm_2, zgm_3, zgm_4, zgm_5, zgm_6, zgm_7, zgm_8, zgm_9, zgm_10, zgm_11, zgm_12, zgm_13, zgm_14, zgm_15, zgm_16, zgm_17, zgm_18, zgm_19, zgm_20, zgm_21, zgm_22, zgm_23, zgm_24, zgm_25, zgm_26, zgm_27, zgm_28, zgm_29, zgm_30, zgm_31, zgm_32, zgm_33, zgm_34, zgm_35, zgm_36, zgm_37, zpm_4, zpm_5, zpm_6, zpm_7, zpm_8, zpm_9, zpm_10, zpm_11, zpm_12, zpm_13, zpm_14, zpm_15, zpm_16, zpm_17, zpm_18, zpm_22, zpm_23, zpm_31, zpm_32, zpm_36, zis_mo, zuN_eq, zuN_ne, zen_208, e_208_0, e_208_1, e_208_4, e_208_5, e_208_6, e_208_7, e_208_11, e_208_12, e_208_15, e_208_16, e_208_17, e_208_18, e_208_21, e_208_22, e_208_23, e_208_24, e_208_25t, e_208_25f, e_208_28, e_208_31, e_208_34, e_208_35t, e_208_35f, e_208_38, e_208_39, e_208_40, e_208_41, e_208_44, e_208_45, e_208_46, e_208_48, e_208_51, e_208_52, e_208_53, e_208_54, e_208_57, e_208_58, e_208_59t, e_208_59f, e_208_62, e_208_65, e_208_68, e_208_69, e_208_70, e_208_71, e_208_74, e_208_75, e_208_76, e_208_77, e_208_78, e_208_79, e_208_82, e_208_83, e_208_84, e_208_86, e_208_87, e_208_92, e_208_93, e_208_94, e_208_96, e_208_99, e_208_102, e_208_105, e_208_108, e_208_109, zPa_some, zPn_some, zRK_some, zRK_none, zCk_t, zis_ob, zget_set_eq, zget_set_ne, zAld_10, zAld_11, zAst_10, zAst_11, zAlen_10, zAlen_11, zbd_t, zbd_f, zb_t, zb_f, zset_set, s_one0, s_one1, zis_so, x0, y0, hwk, es]
    exact q1 (d + 1) K
end MTRY
