/-! the reference: a hand tried, a number's hands -/
section MTRY2
variable {c : Nat} {R : Nat → Int → Int} {D : Int → Bool} {wh bw : Int → Int}
def THp (R : Nat → Int → Int) (S en V : Int) (P : List (List Int)) (bg bg' : Int → Int) : Prop := (∀ j, 0 ≤ j → j < 6 → bt S j = false → bg' j = bg j) ∧ (∀ Lf, P.find? (fun L => decide (la R L ≤ en)) = some Lf → V = la R Lf ∧ ∀ j, 0 ≤ j → j < 6 → bt S j = true → bg' j = sgS R (-1) (-1) Lf (fun _ => 0) j) ∧ (P.find? (fun L => decide (la R L ≤ en)) = none → (∀ L, L ∈ P → V ≤ la R L) ∧ ∃ L, L ∈ P ∧ V = la R L)
theorem lm_210 (rm : RM R D) {S : Int} (hS : 0 ≤ S ∧ S < 64) (en hd : Int) (hen : -1 ≤ en ∧ en ≤ 30) (w0 : Nat → Int) (kk : Nat) (hkk : kk ≤ 6) : ∀ (t : List (List Int)) (L : List Int) (best : Int) (g bg : Int → Int) (M : zM) (u5 : Option Value), PN c (zuN w0 36 kk) R D wh bw g bg M → AG g L → chN (L :: t) = true → (∀ L', L' ∈ L :: t → PO L' S ∧ L'.length = kk) → (-1 ≤ best ∧ best ≤ 99) → ∃ M' g' bg' V, (∀ (d : Nat) (K : zK), Ev (d + 4) 210 13 [some (.ref c), some (.int (zi hd)), some (.int (zi en)), some (.int (zi best)), some (.int (zi 1)), u5] [] M K = K (some (.int (zi V))) M') ∧ PN c (zuN w0 36 kk) R D wh bw g' bg' M' ∧ zFp c M M' ∧ (∀ j, 0 ≤ j → j < 6 → bt S j = false → bg' j = bg j) ∧ (best ≤ en → V = best ∧ ∀ j, bg' j = bg j) ∧ (en < best → (∀ Lf, t.find? (fun L => decide (la R L ≤ en)) = some Lf → V = la R Lf ∧ ∀ j, 0 ≤ j → j < 6 → bt S j = true → bg' j = sgS R (-1) (-1) Lf (fun _ => 0) j) ∧ (t.find? (fun L => decide (la R L ≤ en)) = none → V ≤ best ∧ (∀ L', L' ∈ t → V ≤ la R L') ∧ (V = best ∨ ∃ L', L' ∈ t ∧ V = la R L'))) := by
  intro t
  induction t with
  | nil =>
    intro L best g bg M u5 x a hc hl hb
    have x0 := x.1
    by_cases q : best ≤ en
    · refine ⟨M, g, bg, best, fun d K => ?_, x, zFp_refl, fun _ _ _ _ => rfl, fun _ => ⟨rfl, fun _ => rfl⟩, fun z => by omega⟩
      simp (disch := omega) only [zgm_0, zgm_1, zgm_2, zgm_3, zgm_4, zgm_5, zgm_6, zgm_7, zgm_8, zgm_9, zgm_10, zgm_11, zgm_12, zgm_13, zgm_14, zgm_15, zgm_16, zgm_17, zgm_18, zgm_19, zgm_20, zgm_21, zgm_22, zgm_23, zgm_24, zgm_25, zgm_26, zgm_27, zgm_28, zgm_29, zgm_30, zgm_31, zgm_32, zgm_33, zgm_34, zgm_35, zgm_36, zgm_37, zpm_4, zpm_5, zpm_6, zpm_7, zpm_8, zpm_9, zpm_10, zpm_11, zpm_12, zpm_13, zpm_14, zpm_15, zpm_16, zpm_17, zpm_18, zpm_22, zpm_23, zpm_31, zpm_32, zpm_36, zis_mo, zuN_eq, zuN_ne, zen_210, e_210_0, e_210_1, e_210_2, e_210_5, e_210_6, e_210_9, e_210_10, e_210_11, e_210_13, e_210_15t, e_210_15f, e_210_18, e_210_19, e_210_20t, e_210_20f, e_210_23, e_210_24, e_210_27, e_210_29, e_210_31t, e_210_31f, e_210_34, e_210_35, e_210_38, e_210_41, e_210_42, e_210_44, e_210_46, e_210_47t, e_210_47f, e_210_50, e_210_52, e_210_55, e_210_56, e_210_57, e_210_60, e_210_61, zPa_some, zPn_some, zRK_some, zRK_none, zCk_t, zis_ob, zget_set_eq, zget_set_ne, zAld_10, zAld_11, zAst_10, zAst_11, zAlen_10, zAlen_11, zbd_t, zbd_f, zb_t, zb_f, zset_set, s_one0, s_one1, zis_so]
    · have hL := hl L List.mem_cons_self
      have pl := (PO_len L S hS hL.1).2
      have nn : nxL L = none := by
        unfold chN at hc
        rw [Bool.and_eq_true_iff] at hc
        exact of_decide_eq_true hc.1
      have n1 := nx_none a nn
      rw [hL.2] at n1
      have nx := (s_nextOrder (k := kk) x zuN_eq (by omega) (fun j j1 j2 => by
        rw [a j j1 (by rw [hL.2]; exact j2)]
        have hm : lst L j ∈ L := by
          unfold lst
          rw [List.getD_eq_getElem?_getD, List.getElem?_eq_getElem (by rw [hL.2]; omega)]
          exact List.getElem_mem _
        exact ⟨(pl _ hm).1, (pl _ hm).2.1⟩)).1 n1
      refine ⟨M, g, bg, best, fun d K => ?_, x, zFp_refl, fun _ _ _ _ => rfl, fun z => absurd z q, fun _ => ⟨fun Lf z => (by cases z), fun _ => ⟨Int.le_refl _, fun L' z => (by cases z), Or.inl rfl⟩⟩⟩
      simp (disch := omega) only [zgm_0, zgm_1, zgm_2, zgm_3, zgm_4, zgm_5, zgm_6, zgm_7, zgm_8, zgm_9, zgm_10, zgm_11, zgm_12, zgm_13, zgm_14, zgm_15, zgm_16, zgm_17, zgm_18, zgm_19, zgm_20, zgm_21, zgm_22, zgm_23, zgm_24, zgm_25, zgm_26, zgm_27, zgm_28, zgm_29, zgm_30, zgm_31, zgm_32, zgm_33, zgm_34, zgm_35, zgm_36, zgm_37, zpm_4, zpm_5, zpm_6, zpm_7, zpm_8, zpm_9, zpm_10, zpm_11, zpm_12, zpm_13, zpm_14, zpm_15, zpm_16, zpm_17, zpm_18, zpm_22, zpm_23, zpm_31, zpm_32, zpm_36, zis_mo, zuN_eq, zuN_ne, zen_210, e_210_0, e_210_1, e_210_2, e_210_5, e_210_6, e_210_9, e_210_10, e_210_11, e_210_13, e_210_15t, e_210_15f, e_210_18, e_210_19, e_210_20t, e_210_20f, e_210_23, e_210_24, e_210_27, e_210_29, e_210_31t, e_210_31f, e_210_34, e_210_35, e_210_38, e_210_41, e_210_42, e_210_44, e_210_46, e_210_47t, e_210_47f, e_210_50, e_210_52, e_210_55, e_210_56, e_210_57, e_210_60, e_210_61, zPa_some, zPn_some, zRK_some, zRK_none, zCk_t, zis_ob, zget_set_eq, zget_set_ne, zAld_10, zAld_11, zAst_10, zAst_11, zAlen_10, zAlen_11, zbd_t, zbd_f, zb_t, zb_f, zset_set, s_one0, s_one1, zis_so, x0, nx]
  | cons L1 t ih =>
    intro L best g bg M u5 x a hc hl hb
    have x0 := x.1
    by_cases q : best ≤ en
    · refine ⟨M, g, bg, best, fun d K => ?_, x, zFp_refl, fun _ _ _ _ => rfl, fun _ => ⟨rfl, fun _ => rfl⟩, fun z => by omega⟩
      simp (disch := omega) only [zgm_0, zgm_1, zgm_2, zgm_3, zgm_4, zgm_5, zgm_6, zgm_7, zgm_8, zgm_9, zgm_10, zgm_11, zgm_12, zgm_13, zgm_14, zgm_15, zgm_16, zgm_17, zgm_18, zgm_19, zgm_20, zgm_21, zgm_22, zgm_23, zgm_24, zgm_25, zgm_26, zgm_27, zgm_28, zgm_29, zgm_30, zgm_31, zgm_32, zgm_33, zgm_34, zgm_35, zgm_36, zgm_37, zpm_4, zpm_5, zpm_6, zpm_7, zpm_8, zpm_9, zpm_10, zpm_11, zpm_12, zpm_13, zpm_14, zpm_15, zpm_16, zpm_17, zpm_18, zpm_22, zpm_23, zpm_31, zpm_32, zpm_36, zis_mo, zuN_eq, zuN_ne, zen_210, e_210_0, e_210_1, e_210_2, e_210_5, e_210_6, e_210_9, e_210_10, e_210_11, e_210_13, e_210_15t, e_210_15f, e_210_18, e_210_19, e_210_20t, e_210_20f, e_210_23, e_210_24, e_210_27, e_210_29, e_210_31t, e_210_31f, e_210_34, e_210_35, e_210_38, e_210_41, e_210_42, e_210_44, e_210_46, e_210_47t, e_210_47f, e_210_50, e_210_52, e_210_55, e_210_56, e_210_57, e_210_60, e_210_61, zPa_some, zPn_some, zRK_some, zRK_none, zCk_t, zis_ob, zget_set_eq, zget_set_ne, zAld_10, zAld_11, zAst_10, zAst_11, zAlen_10, zAlen_11, zbd_t, zbd_f, zb_t, zb_f, zset_set, s_one0, s_one1, zis_so]
    · have hL := hl L List.mem_cons_self
      have hL1 := hl L1 (List.mem_cons_of_mem _ List.mem_cons_self)
      have pl := (PO_len L S hS hL.1).2
      have pl1 := (PO_len L1 S hS hL1.1).2
      have hc2 : nxL L = some L1 ∧ chN (L1 :: t) = true := by
        unfold chN at hc
        rw [Bool.and_eq_true_iff] at hc
        exact ⟨of_decide_eq_true hc.1, hc.2⟩
      obtain ⟨n1, n2, n3⟩ := nx_some a hc2.1
      rw [hL.2] at n1 n3
      obtain ⟨fj, M1, a1, a2, a3⟩ := (s_nextOrder (k := kk) x zuN_eq (by omega) (fun j j1 j2 => by
        rw [a j j1 (by rw [hL.2]; exact j2)]
        have hm : lst L j ∈ L := by
          unfold lst
          rw [List.getD_eq_getElem?_getD, List.getElem?_eq_getElem (by rw [hL.2]; omega)]
          exact List.getElem_mem _
        exact ⟨(pl _ hm).1, (pl _ hm).2.1⟩)).2 n1
      have ag1 := n3 fj
      obtain ⟨M2, bg1, b1, b2, b3, b4, b5⟩ := s_latestM rm a2 ag1 (by rw [zuN_eq, hL1.2]) (by omega) (fun m hm => ⟨(pl1 m hm).1, (pl1 m hm).2.1⟩)
      have lr := la_ge rm (L := L1) (fun m hm => ⟨(pl1 m hm).1, (pl1 m hm).2.1⟩)
      have y0 := a2.1
      have bgo : ∀ j, 0 ≤ j → j < 6 → bt S j = false → bg1 j = bg j := fun j j1 j2 j3 => b4 j (fun z => by rw [(pl1 j z).2.2] at j3; cases j3)
      obtain ⟨M', g', bg', V, c1, c2, c3, c4, c5, c6⟩ := ih L1 (min best (la R L1)) _ bg1 M2 (some (.int (zi (la R L1)))) b2 ag1 hc2.2 (fun L' h => hl L' (List.mem_cons_of_mem _ h)) (by omega)
      refine ⟨M', g', bg', V, fun d K => ?_, c2, zFp_trans a3 (zFp_trans b3 c3), fun j j1 j2 j3 => (c4 j j1 j2 j3).trans (bgo j j1 j2 j3), fun z => absurd z q, fun _ => ?_⟩
      · rw [← c1 d K]
        by_cases q2 : la R L1 < best
        · rw [show min best (la R L1) = la R L1 by omega]
          rw [e_210_13]
          simp (disch := omega) only [zgm_0, zgm_1, zgm_2, zgm_3, zgm_4, zgm_5, zgm_6, zgm_7, zgm_8, zgm_9, zgm_10, zgm_11, zgm_12, zgm_13, zgm_14, zgm_15, zgm_16, zgm_17, zgm_18, zgm_19, zgm_20, zgm_21, zgm_22, zgm_23, zgm_24, zgm_25, zgm_26, zgm_27, zgm_28, zgm_29, zgm_30, zgm_31, zgm_32, zgm_33, zgm_34, zgm_35, zgm_36, zgm_37, zpm_4, zpm_5, zpm_6, zpm_7, zpm_8, zpm_9, zpm_10, zpm_11, zpm_12, zpm_13, zpm_14, zpm_15, zpm_16, zpm_17, zpm_18, zpm_22, zpm_23, zpm_31, zpm_32, zpm_36, zis_mo, zuN_eq, zuN_ne, zen_210, e_210_0, e_210_1, e_210_2, e_210_5, e_210_6, e_210_9, e_210_10, e_210_11, e_210_15t, e_210_15f, e_210_18, e_210_19, e_210_20t, e_210_20f, e_210_23, e_210_24, e_210_27, e_210_29, e_210_31t, e_210_31f, e_210_34, e_210_35, e_210_38, e_210_41, e_210_42, e_210_44, e_210_46, e_210_47t, e_210_47f, e_210_50, e_210_52, e_210_55, e_210_56, e_210_57, e_210_60, e_210_61, zPa_some, zPn_some, zRK_some, zRK_none, zCk_t, zis_ob, zget_set_eq, zget_set_ne, zAld_10, zAld_11, zAst_10, zAst_11, zAlen_10, zAlen_11, zbd_t, zbd_f, zb_t, zb_f, zset_set, s_one0, s_one1, zis_so, x0, y0, a1, b1]
        · rw [show min best (la R L1) = best by omega]
          rw [e_210_13]
          simp (disch := omega) only [zgm_0, zgm_1, zgm_2, zgm_3, zgm_4, zgm_5, zgm_6, zgm_7, zgm_8, zgm_9, zgm_10, zgm_11, zgm_12, zgm_13, zgm_14, zgm_15, zgm_16, zgm_17, zgm_18, zgm_19, zgm_20, zgm_21, zgm_22, zgm_23, zgm_24, zgm_25, zgm_26, zgm_27, zgm_28, zgm_29, zgm_30, zgm_31, zgm_32, zgm_33, zgm_34, zgm_35, zgm_36, zgm_37, zpm_4, zpm_5, zpm_6, zpm_7, zpm_8, zpm_9, zpm_10, zpm_11, zpm_12, zpm_13, zpm_14, zpm_15, zpm_16, zpm_17, zpm_18, zpm_22, zpm_23, zpm_31, zpm_32, zpm_36, zis_mo, zuN_eq, zuN_ne, zen_210, e_210_0, e_210_1, e_210_2, e_210_5, e_210_6, e_210_9, e_210_10, e_210_11, e_210_15t, e_210_15f, e_210_18, e_210_19, e_210_20t, e_210_20f, e_210_23, e_210_24, e_210_27, e_210_29, e_210_31t, e_210_31f, e_210_34, e_210_35, e_210_38, e_210_41, e_210_42, e_210_44, e_210_46, e_210_47t, e_210_47f, e_210_50, e_210_52, e_210_55, e_210_56, e_210_57, e_210_60, e_210_61, zPa_some, zPn_some, zRK_some, zRK_none, zCk_t, zis_ob, zget_set_eq, zget_set_ne, zAld_10, zAld_11, zAst_10, zAst_11, zAlen_10, zAlen_11, zbd_t, zbd_f, zb_t, zb_f, zset_set, s_one0, s_one1, zis_so, x0, y0, a1, b1]
      · by_cases q3 : la R L1 ≤ en
        · have e5 := c5 (by omega)
          have ef : (L1 :: t).find? (fun L => decide (la R L ≤ en)) = some L1 := List.find?_cons_of_pos (by exact decide_eq_true q3)
          refine ⟨fun Lf h => ?_, fun h => by rw [ef] at h; cases h⟩
          rw [ef] at h
          cases h
          refine ⟨by omega, fun j j1 j2 j3 => ?_⟩
          rw [e5.2 j, b5 (by omega) j]
          exact sgS_in L1 S (-1) (-1) bg (fun _ => 0) j hS hL1.1 j1 j2 j3
        · have ef : (L1 :: t).find? (fun L => decide (la R L ≤ en)) = t.find? (fun L => decide (la R L ≤ en)) := List.find?_cons_of_neg (by rw [decide_eq_true_iff]; exact q3)
          rw [ef]
          obtain ⟨d1, d2⟩ := c6 (by omega)
          refine ⟨d1, fun h => ?_⟩
          obtain ⟨f1, f2, f3⟩ := d2 h
          refine ⟨by omega, fun L' hL' => ?_, ?_⟩
          · rcases List.mem_cons.mp hL' with z | z
            · subst z; omega
            · exact f2 L' z
          · rcases f3 with z | ⟨L', z1, z2⟩
            · by_cases z3 : best ≤ la R L1
              · exact Or.inl (by omega)
              · exact Or.inr ⟨L1, List.mem_cons_self, by omega⟩
            · exact Or.inr ⟨L', List.mem_cons_of_mem _ z1, z2⟩
theorem s_tryHand (rm : RM R D) {w : Nat → Int} {g bg : Int → Int} {M : zM} (x : PN c w R D wh bw g bg M) (hw : ∀ j, 0 ≤ j → j < 6 → D j = true → 0 ≤ wh j ∧ wh j ≤ 3) (hd en : Int) (hh : 0 ≤ hd ∧ hd ≤ 3) (hen : -1 ≤ en ∧ en ≤ 30) : ∃ M' w' g' bg' V, (∀ (d : Nat) (K : zK), zC (d + 5) 210 [.ref c, .int (zi hd), .int (zi en)] M K = K (some (.int (zi V))) M') ∧ PN c w' R D wh bw g' bg' M' ∧ (∀ j, j ≠ 36 → w' j = w j) ∧ zFp c M M' ∧ THp R (soM D wh hd) en V (pm 6 (soM D wh hd)) bg bg' := by
  have hS : 0 ≤ soM D wh hd ∧ soM D wh hd < 64 := stP_rng _
  obtain ⟨M1, g1, a1, a2, a3, a4⟩ := s_layOrder x hw hd hh
  obtain ⟨ch, hhd⟩ := chS_at hS
  cases hP : pm 6 (soM D wh hd) with
  | nil => rw [hP] at hhd; cases hhd
  | cons L0 t =>
    rw [hP] at hhd ch
    have e0 : L0 = ascS (soM D wh hd) := by
      have : some L0 = some (ascS (soM D wh hd)) := hhd
      exact Option.some.inj this
    rw [← e0] at a2 a3
    have po : ∀ L', L' ∈ L0 :: t → PO L' (soM D wh hd) ∧ L'.length = L0.length := fun L' h => by
      have p1 := (mem_pm6 hS).mp (by rw [hP]; exact h)
      have p0 := (mem_pm6 (L := L0) hS).mp (by rw [hP]; exact List.mem_cons_self)
      have l1 := (PO_len L' _ hS p1).1
      have l0 := (PO_len L0 _ hS p0).1
      exact ⟨p1, by omega⟩
    have p0 := po L0 List.mem_cons_self
    have pl := PO_len L0 _ hS p0.1
    have cr := cdS_rng (soM D wh hd)
    obtain ⟨M2, bg1, b1, b2, b3, b4, b5⟩ := s_latestM rm a2 a3 zuN_eq (by omega) (fun m hm => ⟨(pl.2 m hm).1, (pl.2 m hm).2.1⟩)
    have lr := la_ge rm (L := L0) (fun m hm => ⟨(pl.2 m hm).1, (pl.2 m hm).2.1⟩)
    obtain ⟨M', g', bg', V, c1, c2, c3, c4, c5, c6⟩ := lm_210 rm hS en hd hen w L0.length (by omega) t L0 (la R L0) g1 bg1 M2 none b2 a3 ch po lr
    have bgo : ∀ j, 0 ≤ j → j < 6 → bt (soM D wh hd) j = false → bg1 j = bg j := fun j j1 j2 j3 => b4 j (fun z => by rw [(pl.2 j z).2.2] at j3; cases j3)
    refine ⟨M', _, g', bg', V, fun d K => ?_, c2, fun j hj => zuN_ne hj, zFp_trans a4 (zFp_trans b3 c3), fun j j1 j2 j3 => (c4 j j1 j2 j3).trans (bgo j j1 j2 j3), ?_⟩
    · rw [← c1 d K]
      have x0 := x.1
      have y0 := a2.1
      simp (disch := omega) only [zgm_0, zgm_1, zgm_2, zgm_3, zgm_4, zgm_5, zgm_6, zgm_7, zgm_8, zgm_9, zgm_10, zgm_11, zgm_12, zgm_13, zgm_14, zgm_15, zgm_16, zgm_17, zgm_18, zgm_19, zgm_20, zgm_21, zgm_22, zgm_23, zgm_24, zgm_25, zgm_26, zgm_27, zgm_28, zgm_29, zgm_30, zgm_31, zgm_32, zgm_33, zgm_34, zgm_35, zgm_36, zgm_37, zpm_4, zpm_5, zpm_6, zpm_7, zpm_8, zpm_9, zpm_10, zpm_11, zpm_12, zpm_13, zpm_14, zpm_15, zpm_16, zpm_17, zpm_18, zpm_22, zpm_23, zpm_31, zpm_32, zpm_36, zis_mo, zuN_eq, zuN_ne, zen_210, e_210_0, e_210_1, e_210_2, e_210_5, e_210_6, e_210_9, e_210_10, e_210_11, e_210_15t, e_210_15f, e_210_18, e_210_19, e_210_20t, e_210_20f, e_210_23, e_210_24, e_210_27, e_210_29, e_210_31t, e_210_31f, e_210_34, e_210_35, e_210_38, e_210_41, e_210_42, e_210_44, e_210_46, e_210_47t, e_210_47f, e_210_50, e_210_52, e_210_55, e_210_56, e_210_57, e_210_60, e_210_61, zPa_some, zPn_some, zRK_some, zRK_none, zCk_t, zis_ob, zget_set_eq, zget_set_ne, zAld_10, zAld_11, zAst_10, zAst_11, zAlen_10, zAlen_11, zbd_t, zbd_f, zb_t, zb_f, zset_set, s_one0, s_one1, zis_so, x0, y0, a1, b1]
    · by_cases q : la R L0 ≤ en
      · have e5 := c5 q
        have ef : (L0 :: t).find? (fun L => decide (la R L ≤ en)) = some L0 := List.find?_cons_of_pos (by exact decide_eq_true q)
        refine ⟨fun Lf h => ?_, fun h => by rw [ef] at h; cases h⟩
        rw [ef] at h
        cases h
        refine ⟨e5.1, fun j j1 j2 j3 => ?_⟩
        rw [e5.2 j, b5 (by omega) j]
        exact sgS_in L0 _ (-1) (-1) bg (fun _ => 0) j hS p0.1 j1 j2 j3
      · have ef : (L0 :: t).find? (fun L => decide (la R L ≤ en)) = t.find? (fun L => decide (la R L ≤ en)) := List.find?_cons_of_neg (by rw [decide_eq_true_iff]; exact q)
        rw [ef]
        obtain ⟨d1, d2⟩ := c6 (by omega)
        refine ⟨d1, fun h => ?_⟩
        obtain ⟨f1, f2, f3⟩ := d2 h
        refine ⟨fun L' hL' => ?_, ?_⟩
        · rcases List.mem_cons.mp hL' with z | z
          · subst z; omega
          · exact f2 L' z
        · rcases f3 with z | ⟨L', z1, z2⟩
          · exact ⟨L0, List.mem_cons_self, z⟩
          · exact ⟨L', List.mem_cons_of_mem _ z1, z2⟩
/-- the number's hands -/
def mq (D : Int → Bool) (H : Int) : Nat → Int → Int
  | 0, t => t
  | n + 1, t => if D (5 - n) = true then mq D H n t / H else mq D H n t
theorem mq_s {D : Int → Bool} {H t : Int} {n : Nat} : mq D H (n + 1) t = if D (5 - n) = true then mq D H n t / H else mq D H n t := rfl
def whM (D : Int → Bool) (H t j : Int) : Int := mq D H (5 - j).toNat t % H
theorem mq_rng {H : Int} (hH : 1 ≤ H) : ∀ (n : Nat) (t : Int), 0 ≤ t → 0 ≤ mq D H n t ∧ mq D H n t ≤ t := by
  intro n
  induction n with
  | zero => intro t h; exact ⟨h, Int.le_refl _⟩
  | succ n ih =>
    intro t h
    have q := ih t h
    unfold mq
    split
    · exact ⟨Int.ediv_nonneg q.1 (by omega), Int.le_trans (Int.ediv_le_self _ q.1) q.2⟩
    · exact q
theorem lm_211 {w : Nat → Int} {g bg : Int → Int} {H : Int} (hH : 1 ≤ H ∧ H ≤ 3) (hwH : w 31 = H) (t : Int) (ht : 0 ≤ t ∧ t < 1000) : ∀ (n : Nat) (m : Int) (wh : Int → Int) (M : zM), PN c w R D wh bw g bg M → m + 1 = n → m < 6 → ∃ M', (∀ (d : Nat) (K : zK), Ev d 211 5 [some (.ref c), some (.int (zi t)), some (.int (zi (mq D H (5 - m).toNat t))), some (.int (zi m))] [.int (zi m)] M K = K none M') ∧ PN c w R D (fun j => if 0 ≤ j ∧ j ≤ m ∧ D j = true then whM D H t j else wh j) bw g bg M' ∧ zFp c M M' := by
  intro n
  induction n with
  | zero =>
    intro m wh M x hm h6
    refine ⟨M, fun d K => ?_, ?_, zFp_refl⟩
    · simp (disch := omega) only [zgm_0, zgm_1, zgm_2, zgm_3, zgm_4, zgm_5, zgm_6, zgm_7, zgm_8, zgm_9, zgm_10, zgm_11, zgm_12, zgm_13, zgm_14, zgm_15, zgm_16, zgm_17, zgm_18, zgm_19, zgm_20, zgm_21, zgm_22, zgm_23, zgm_24, zgm_25, zgm_26, zgm_27, zgm_28, zgm_29, zgm_30, zgm_31, zgm_32, zgm_33, zgm_34, zgm_35, zgm_36, zgm_37, zpm_4, zpm_5, zpm_6, zpm_7, zpm_8, zpm_9, zpm_10, zpm_11, zpm_12, zpm_13, zpm_14, zpm_15, zpm_16, zpm_17, zpm_18, zpm_22, zpm_23, zpm_31, zpm_32, zpm_36, zis_mo, zuN_eq, zuN_ne, zen_211, e_211_0, e_211_1, e_211_2, e_211_3, e_211_4, e_211_5t, e_211_5f, e_211_8, e_211_9, e_211_12, e_211_13, e_211_14t, e_211_14f, e_211_17, e_211_18, e_211_21, e_211_22, e_211_23, e_211_24, e_211_27, e_211_28, e_211_29, e_211_30, e_211_31, e_211_34, e_211_35, e_211_36, e_211_39, e_211_42, zPa_some, zPn_some, zRK_some, zRK_none, zCk_t, zis_ob, zget_set_eq, zget_set_ne, zAld_10, zAld_11, zAst_10, zAst_11, zAlen_10, zAlen_11, zbd_t, zbd_f, zb_t, zb_f, zset_set, s_one0, s_one1, zis_so]
    · rw [show (fun j => if 0 ≤ j ∧ j ≤ m ∧ D j = true then whM D H t j else wh j) = wh from funext (fun j => if_neg (fun q => by omega))]
      exact x
  | succ n ih =>
    intro m wh M x hm h6
    obtain ⟨x0, x1, x2, x3, x4, x5, x6, x7, x8, x9⟩ := id x
    have mr := mq_rng (D := D) (H := H) (by omega) (5 - m).toNat t (by omega)
    have d1 := zmod_f (x := mq D H (5 - m).toNat t) (y := H) (by omega)
    have d2 := zdiv_f (x := mq D H (5 - m).toNat t) (y := H) (by omega)
    have e5 : (5 : Int) - ((5 - m).toNat : Nat) = m := by omega
    have en : mq D H (5 - (m - 1)).toNat t = if D m = true then mq D H (5 - m).toNat t / H else mq D H (5 - m).toNat t := by
      rw [show (5 - (m - 1)).toNat = (5 - m).toNat + 1 by omega]
      rw [mq_s, e5]
    have ew : mq D H (5 - m).toNat t % H = whM D H t m := rfl
    cases q : D m with
    | true =>
      rw [q, if_pos rfl] at en
      obtain ⟨M', a1, a2, a3⟩ := ih (m - 1) _ _ (PN_wh (wh' := zu wh m (whM D H t m)) x) (by omega) (by omega)
      refine ⟨M', fun d K => ?_, ?_, zFp_trans (zFp_set (by omega)) a3⟩
      · rw [en] at a1
        rw [← a1 d K]
        simp (disch := omega) only [zgm_0, zgm_1, zgm_2, zgm_3, zgm_4, zgm_5, zgm_6, zgm_7, zgm_8, zgm_9, zgm_10, zgm_11, zgm_12, zgm_13, zgm_14, zgm_15, zgm_16, zgm_17, zgm_18, zgm_19, zgm_20, zgm_21, zgm_22, zgm_23, zgm_24, zgm_25, zgm_26, zgm_27, zgm_28, zgm_29, zgm_30, zgm_31, zgm_32, zgm_33, zgm_34, zgm_35, zgm_36, zgm_37, zpm_4, zpm_5, zpm_6, zpm_7, zpm_8, zpm_9, zpm_10, zpm_11, zpm_12, zpm_13, zpm_14, zpm_15, zpm_16, zpm_17, zpm_18, zpm_22, zpm_23, zpm_31, zpm_32, zpm_36, zis_mo, zuN_eq, zuN_ne, zen_211, e_211_0, e_211_1, e_211_2, e_211_3, e_211_4, e_211_5t, e_211_5f, e_211_8, e_211_9, e_211_12, e_211_13, e_211_14t, e_211_14f, e_211_17, e_211_18, e_211_21, e_211_22, e_211_23, e_211_24, e_211_27, e_211_28, e_211_29, e_211_30, e_211_31, e_211_34, e_211_35, e_211_36, e_211_39, e_211_42, zPa_some, zPn_some, zRK_some, zRK_none, zCk_t, zis_ob, zget_set_eq, zget_set_ne, zAld_10, zAld_11, zAst_10, zAst_11, zAlen_10, zAlen_11, zbd_t, zbd_f, zb_t, zb_f, zset_set, s_one0, s_one1, zis_so, x0, x1, x6, zAld_b, q, hwH, d1, d2, ew]
        try rw [show m + -1 = m - 1 by omega]
      · rw [show (fun j => if 0 ≤ j ∧ j ≤ m ∧ D j = true then whM D H t j else wh j) = (fun j => if 0 ≤ j ∧ j ≤ m - 1 ∧ D j = true then whM D H t j else zu wh m (whM D H t m) j) from funext (fun j => by
          unfold zu
          by_cases z : j = m
          · subst z
            rw [if_pos ⟨by omega, by omega, q⟩, if_neg (fun y => by omega), if_pos rfl]
          · rw [if_neg z]
            by_cases z2 : 0 ≤ j ∧ j ≤ m ∧ D j = true
            · rw [if_pos z2, if_pos ⟨z2.1, by omega, z2.2.2⟩]
            · rw [if_neg z2, if_neg (fun y => z2 ⟨y.1, by omega, y.2.2⟩)])]
        exact a2
    | false =>
      rw [q, if_neg (by decide)] at en
      obtain ⟨M', a1, a2, a3⟩ := ih (m - 1) _ _ x (by omega) (by omega)
      refine ⟨M', fun d K => ?_, ?_, a3⟩
      · rw [en] at a1
        rw [← a1 d K]
        simp (disch := omega) only [zgm_0, zgm_1, zgm_2, zgm_3, zgm_4, zgm_5, zgm_6, zgm_7, zgm_8, zgm_9, zgm_10, zgm_11, zgm_12, zgm_13, zgm_14, zgm_15, zgm_16, zgm_17, zgm_18, zgm_19, zgm_20, zgm_21, zgm_22, zgm_23, zgm_24, zgm_25, zgm_26, zgm_27, zgm_28, zgm_29, zgm_30, zgm_31, zgm_32, zgm_33, zgm_34, zgm_35, zgm_36, zgm_37, zpm_4, zpm_5, zpm_6, zpm_7, zpm_8, zpm_9, zpm_10, zpm_11, zpm_12, zpm_13, zpm_14, zpm_15, zpm_16, zpm_17, zpm_18, zpm_22, zpm_23, zpm_31, zpm_32, zpm_36, zis_mo, zuN_eq, zuN_ne, zen_211, e_211_0, e_211_1, e_211_2, e_211_3, e_211_4, e_211_5t, e_211_5f, e_211_8, e_211_9, e_211_12, e_211_13, e_211_14t, e_211_14f, e_211_17, e_211_18, e_211_21, e_211_22, e_211_23, e_211_24, e_211_27, e_211_28, e_211_29, e_211_30, e_211_31, e_211_34, e_211_35, e_211_36, e_211_39, e_211_42, zPa_some, zPn_some, zRK_some, zRK_none, zCk_t, zis_ob, zget_set_eq, zget_set_ne, zAld_10, zAld_11, zAst_10, zAst_11, zAlen_10, zAlen_11, zbd_t, zbd_f, zb_t, zb_f, zset_set, s_one0, s_one1, zis_so, x0, x1, zAld_b, q]
        try rw [show m + -1 = m - 1 by omega]
      · rw [show (fun j => if 0 ≤ j ∧ j ≤ m ∧ D j = true then whM D H t j else wh j) = (fun j => if 0 ≤ j ∧ j ≤ m - 1 ∧ D j = true then whM D H t j else wh j) from funext (fun j => by
          by_cases z2 : 0 ≤ j ∧ j ≤ m ∧ D j = true
          · have z3 : j ≠ m := fun y => by rw [y, q] at z2; cases z2.2.2
            rw [if_pos z2, if_pos ⟨z2.1, by omega, z2.2.2⟩]
          · rw [if_neg z2, if_neg (fun y => z2 ⟨y.1, by omega, y.2.2⟩)])]
        exact a2
theorem s_setWho {w : Nat → Int} {g bg : Int → Int} {H : Int} {M : zM} (hH : 1 ≤ H ∧ H ≤ 3) (hwH : w 31 = H) (t : Int) (ht : 0 ≤ t ∧ t < 1000) (x : PN c w R D wh bw g bg M) : ∃ M', (∀ (d : Nat) (K : zK), zC (d + 1) 211 [.ref c, .int (zi t)] M K = K none M') ∧ PN c w R D (fun j => if 0 ≤ j ∧ j ≤ 5 ∧ D j = true then whM D H t j else wh j) bw g bg M' ∧ zFp c M M' := by
  obtain ⟨M', a1, a2, a3⟩ := lm_211 hH hwH t ht 6 5 wh M x (by omega) (by omega)
  refine ⟨M', fun d K => ?_, a2, a3⟩
  rw [← a1 d K]
  simp (disch := omega) only [zgm_0, zgm_1, zgm_2, zgm_3, zgm_4, zgm_5, zgm_6, zgm_7, zgm_8, zgm_9, zgm_10, zgm_11, zgm_12, zgm_13, zgm_14, zgm_15, zgm_16, zgm_17, zgm_18, zgm_19, zgm_20, zgm_21, zgm_22, zgm_23, zgm_24, zgm_25, zgm_26, zgm_27, zgm_28, zgm_29, zgm_30, zgm_31, zgm_32, zgm_33, zgm_34, zgm_35, zgm_36, zgm_37, zpm_4, zpm_5, zpm_6, zpm_7, zpm_8, zpm_9, zpm_10, zpm_11, zpm_12, zpm_13, zpm_14, zpm_15, zpm_16, zpm_17, zpm_18, zpm_22, zpm_23, zpm_31, zpm_32, zpm_36, zis_mo, zuN_eq, zuN_ne, zen_211, e_211_0, e_211_1, e_211_2, e_211_3, e_211_4, e_211_8, e_211_9, e_211_12, e_211_13, e_211_14t, e_211_14f, e_211_17, e_211_18, e_211_21, e_211_22, e_211_23, e_211_24, e_211_27, e_211_28, e_211_29, e_211_30, e_211_31, e_211_34, e_211_35, e_211_36, e_211_39, e_211_42, zPa_some, zPn_some, zRK_some, zRK_none, zCk_t, zis_ob, zget_set_eq, zget_set_ne, zAld_10, zAld_11, zAst_10, zAst_11, zAlen_10, zAlen_11, zbd_t, zbd_f, zb_t, zb_f, zset_set, s_one0, s_one1, zis_so]
  rfl
end MTRY2
