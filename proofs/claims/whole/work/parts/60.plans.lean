/-! the calls: plan, given, begun -/
section PLANS
variable {b c : Nat} {v : Nat → Int} {F C D : Int → Bool} {G : Int → Int} {R : Nat → Int → Int} {M : zM} {e : Int → Int} {H : Int}
theorem soS_pos (rm : RM R D) (hk : HKe R (stP D) e 64) {S : Int} (hS : 0 ≤ S ∧ S < 64) (hs : sub S (stP D)) (h0 : S ≠ 0) : 0 ≤ soS e S := by
  unfold soS
  rw [if_neg h0]
  refine zfor_inv (f := fun m s => min s (e (S * 6 + m))) (fun z => 0 ≤ z) 6 0 1000 (by omega) (fun m t j1 j2 j3 => ?_)
  have p : 0 ≤ e (S * 6 + m) := by
    rw [hk S m (by omega) (by omega) (by omega) (by omega)]
    cases q : bt (zand S (stP D)) m with
    | false => rw [if_neg (by decide)]; omega
    | true =>
      rw [if_pos rfl]
      have rW := stP_rng D
      rw [bt_and (by omega), Bool.and_eq_true_iff, bt_stP (by omega)] at q
      have r := rm.1 m (by omega) (by omega)
      have r13 := r.2.2.2.2.2.2 q.2
      have t0 := eeT_rng (e := e) (S := S) rm (m := m) (by omega)
      unfold eeS
      split <;> omega
  omega
theorem DY_pos (rm : RM R D) (hk : HKe R (stP D) e 64) (hH : 1 ≤ H ∧ H ≤ 3) (cW : stP D ≠ 0) {u : Int → Int} (ok : ∀ j, 0 ≤ u j ∧ u j < H) : 0 ≤ DY (soS e) (stP D) u := by
  have ex : ∃ j, (0 ≤ j ∧ j < 6) ∧ D j = true := by
    refine Classical.byContradiction (fun z => cW ?_)
    have r := stP_rng D
    refine bt_ext ⟨r.1, r.2, by omega, by omega⟩ (fun m h1 h2 => ?_)
    rw [bt_0, bt_stP ⟨h1, h2⟩]
    cases q : D m with
    | false => rfl
    | true => exact absurd ⟨m, ⟨h1, h2⟩, q⟩ z
  obtain ⟨j, hj, dj⟩ := ex
  have key : ∀ o, u j = o → 0 ≤ soS e (soM D u o) := fun o h => by
    have hb : bt (soM D u o) j = true := by
      unfold soM
      rw [bt_stP hj, dj, decide_eq_true h]
      rfl
    have r := stP_rng (fun m => D m && decide (u m = o))
    have p := bt_pos (S := soM D u o) (m := j) ⟨r.1, r.2, hj.1, hj.2⟩ hb
    exact soS_pos rm hk r sub_soM (by omega)
  have o := ok j
  unfold DY
  rw [ofS_soM, ofS_soM, ofS_soM]
  by_cases c0 : u j = 0
  · have := key 0 c0; omega
  · by_cases c1 : u j = 1
    · have := key 1 c1; omega
    · have := key 2 (by omega); omega
/-- the reference's part of a plan -/
theorem p_core (rm : RM R D) (hH : 1 ≤ H ∧ H ≤ 3) {ow st : Int → Int} {lt : Int} (s : SOL R D H ow st lt) : (∀ m, 0 ≤ m → m < 6 → (lt = -1 ∨ D m = false) → ow m = -1 ∧ st m = -1) ∧ (-1 ≤ lt ∧ lt ≤ 1000) ∧ (∀ m, 0 ≤ m → m < 6 → -1 ≤ ow m ∧ ow m ≤ 2) ∧ ∀ (w : Nat → Int) (wh bw g bg : Int → Int) (M : zM), PN c w R D wh bw g bg M → w 31 = H → ∃ M' w' wh' bw' g' bg', (∀ (d : Nat) (K : zK), zC (d + 7) 212 [.ref c] M K = K (some (.int (zi lt))) M') ∧ PN c w' R D wh' bw' g' bg' M' ∧ (∀ j, j ≠ 36 → w' j = w j) ∧ zFp c M M' ∧ (lt ≠ -1 → ∀ m, 0 ≤ m → m < 6 → D m = true → wh' m = ow m ∧ bg' m = st m) := by
  obtain ⟨s1, s2⟩ := s
  by_cases cW : stP D = 0
  · obtain ⟨l1, l2⟩ := s1 cW
    refine ⟨fun m h1 h2 _ => l2 m h1 h2, by omega, fun m h1 h2 => by have := (l2 m h1 h2).1; omega, fun w wh bw g bg M x hwH => ⟨M, w, wh, bw, g, bg, ?_, x, fun _ _ => rfl, zFp_refl, fun z => absurd l1 z⟩⟩
    rw [l1]
    exact s_findPlan0 x cW
  · obtain ⟨e, hk, B1, hB1, sN, sY⟩ := s2 cW
    obtain ⟨B, hB⟩ : ∃ B, B = zfor (fbS (fun s => DY (soS e) (stP D) (dgS H s))) (pH H).toNat 0 (-1, 1000) := ⟨_, rfl⟩
    obtain ⟨Q, hQ⟩ : ∃ Q, Q = zfor (fbS (dyM D H e)) (pN H (nDue D).toNat).toNat 0 (-1, 99) := ⟨_, rfl⟩
    rw [← hB] at hB1
    subst hB1
    obtain ⟨m1, m2⟩ := plan_meet rm hk hH B Q hB hQ
    by_cases cB : B.1 = -1
    · obtain ⟨l1, l2⟩ := sN cB
      refine ⟨fun m h1 h2 _ => l2 m h1 h2, by omega, fun m h1 h2 => by have := (l2 m h1 h2).1; omega, fun w wh bw g bg M x hwH => ?_⟩
      obtain ⟨M', w', wh', bw', g', bg', a1, a2, a3, a4, a5⟩ := s_findPlan rm hk hH x hwH cW
      rw [← hQ, if_pos (m1.mp cB)] at a1
      exact ⟨M', w', wh', bw', g', bg', by rw [l1]; exact a1, a2, a3, a4, fun z => absurd l1 z⟩
    · obtain ⟨l1, l2, l3, l4⟩ := sY cB
      obtain ⟨n1, n2⟩ := m2 cB
      have cQ : Q.1 ≠ -1 := fun z => cB (m1.mpr z)
      have two := DY_two (e := e) rm hk (u := dgS H B.1)
      have pos := DY_pos rm hk hH cW (u := dgS H B.1) (fun j => dgS_rng (by omega))
      have hb : ∀ m, 0 ≤ m → m < 6 → bt (stP D) m = D m := fun m h1 h2 => bt_stP ⟨h1, h2⟩
      have own : ∀ m, 0 ≤ m → m < 6 → D m = true → ow m = dgS H B.1 m := fun m h1 h2 h3 => by
        rw [l2 m h1 h2]
        unfold owS
        rw [hb m h1 h2, h3, if_pos rfl]
      have own0 : ∀ m, 0 ≤ m → m < 6 → D m = false → ow m = -1 := fun m h1 h2 h3 => by
        rw [l2 m h1 h2]
        unfold owS
        rw [hb m h1 h2, h3, if_neg (by decide)]
      refine ⟨fun m h1 h2 h3 => ?_, by omega, fun m h1 h2 => ?_, fun w wh bw g bg M x hwH => ?_⟩
      · rcases h3 with h3 | h3
        · omega
        · exact ⟨own0 m h1 h2 h3, l4 m h1 h2 h3⟩
      · cases q : D m with
        | true =>
          rw [own m h1 h2 q]
          have := dgS_rng (H := H) (s := B.1) (m := m) (by omega)
          omega
        | false => rw [own0 m h1 h2 q]; omega
      · obtain ⟨M', w', wh', bw', g', bg', a1, a2, a3, a4, a5⟩ := s_findPlan rm hk hH x hwH cW
        rw [← hQ] at a1 a5
        rw [if_neg cQ] at a1
        obtain ⟨b1, b2⟩ := a5 cQ
        rw [n1, ← l1] at a1 b2
        refine ⟨M', w', wh', bw', g', bg', a1, a2, a3, a4, fun _ m h1 h2 h3 => ?_⟩
        have ew : wh' m = ow m := by rw [b1 m h1 h2 h3, own m h1 h2 h3, n2 m h1 h2 h3]
        refine ⟨ew, ?_⟩
        have dr := dgS_rng (H := H) (s := B.1) (m := m) (by omega)
        have hm := own m h1 h2 h3
        obtain ⟨o, ho⟩ : ∃ o, o = ow m := ⟨_, rfl⟩
        have seq : soO (owS (stP D) H B.1) o = soM D wh' o := stP_congr (fun j j1 j2 => by
          cases q : D j with
          | true =>
            rw [← l2 j j1 j2, own j j1 j2 q, n2 j j1 j2 q, ← b1 j j1 j2 q]
            rfl
          | false =>
            rw [← l2 j j1 j2, own0 j j1 j2 q, decide_eq_false (by omega)]
            rfl)
        have hS : 0 ≤ soM D wh' o ∧ soM D wh' o < 64 := stP_rng _
        have sle : soS e (soM D wh' o) ≤ lt := by
          have e1 : soM D wh' o = ofS (stP D) (dgS H B.1) o := by
            rw [ofS_soM]
            exact soM_congr (fun j j1 j2 j3 => by rw [b1 j j1 j2 j3, n2 j j1 j2 j3])
          rw [l1, e1]
          unfold DY
          have o3 : o = 0 ∨ o = 1 ∨ o = 2 := by omega
          rcases o3 with q | q | q <;> rw [q] <;> omega
        have l30 : lt ≤ 30 := by
          have := B.2
          rcases two.2 with z | z
          · omega
          · exfalso
            have sp := fbS_spec (dy := fun s => DY (soS e) (stP D) (dgS H s)) (N := (pH H).toNat) (T := 1000)
            rw [← hB] at sp
            rcases sp with ⟨y1, -⟩ | ⟨y1, y2, y3, -⟩
            · exact cB y1
            · omega
        obtain ⟨L', p1, p2, p3⟩ := soS_at rm hk (stP_rng D) hS (sub_soM (D := D) (f := wh') (h := o)) (by omega)
        obtain ⟨Lf, hf⟩ : ∃ Lf, (pm 6 (soM D wh' o)).find? (fun L => decide (la R L ≤ lt)) = some Lf := by
          cases q : (pm 6 (soM D wh' o)).find? (fun L => decide (la R L ≤ lt)) with
          | some Lf => exact ⟨Lf, rfl⟩
          | none =>
            rw [List.find?_eq_none] at q
            exact absurd (decide_eq_true (by omega)) (q L' ((mem_pm6 hS).mpr p1))
        have xd := dfS_first rm (lt := lt) (S := soM D wh' o) ⟨by omega, l30⟩ hS
        rw [hf, ← seq] at xd
        have bm : bt (soM D wh' o) m = true := by
          unfold soM
          rw [bt_stP ⟨h1, h2⟩, h3, decide_eq_true (by omega)]
          rfl
        have r1 := l3 o (by omega) (by omega) Lf xd m h1 h2 (by rw [← l2 m h1 h2]; exact ho.symm)
        have r2 := b2 o (by omega) (by omega) Lf hf m h1 h2 bm
        rw [r1, r2]
theorem XI_PL (x7 : XM b v R D M) (x8 : XP b M) : ∃ l e s o t, PL b v R D e s o t l M := by
  obtain ⟨l, e, s, o, t, h1, h2, h3, h4, h5⟩ := x8
  exact ⟨l, e, s, o, t, x7, h1, h2, h3, h4, h5⟩
theorem x_planAnew (x : XI b v F C G R D M) (ri : RI v G R D) : ∃ M' e so ow st lt, (∀ (d : Nat) (K : zK), zC (d + 15) 134 [.ref b] M K = K none M') ∧ XI b (zuN v 32 (v 32 + 1)) F C G R D M' ∧ zFr b 47 M M' ∧ SOL R D (v 31) ow st lt ∧ PL b v R D e so ow st lt M' := by
  obtain ⟨x1, x2, x3, x4, x5, x6, x7, x8⟩ := x
  have f1 := zFr_set (lo := b) (n := 1) (a := b) (M := M) (x := zOb 8 [.ref (b + 1), .ref (b + 46), .ref (b + 2), .ref (b + 3), .ref (b + 4), .ref (b + 9), .ref (b + 12), .ref (b + 17), .int (zi (v 4)), .int (zi (v 5)), .int (zi (v 16)), .int (zi (v 32 + 1)), .int (zi (v 17))]) (by omega)
  have y1 : XO b (zuN v 32 (v 32 + 1)) (zset M b (zOb 8 [.ref (b + 1), .ref (b + 46), .ref (b + 2), .ref (b + 3), .ref (b + 4), .ref (b + 9), .ref (b + 12), .ref (b + 17), .int (zi (v 4)), .int (zi (v 5)), .int (zi (v 16)), .int (zi (v 32 + 1)), .int (zi (v 17))])) := ⟨zget_set_eq, zFr_get f1 x1.2.1 (by omega), zFr_get f1 x1.2.2 (by omega)⟩
  obtain ⟨l, e, s, o, t, pl⟩ := XI_PL (XM_fr x7 f1 (by omega)) (XP_fr x8 f1 (by omega))
  obtain ⟨M', e', so', ow', st', lt', a1, a2, a3, a4, -⟩ := s_solve pl ri.2.2.2.2 ri.1
  have h0 := x1.1
  have p17 := pl.2.1
  have p12 := pl.1.1
  refine ⟨M', e', so', ow', st', lt', fun d K => ?_, ⟨XO_fr y1 a3 (by omega), XS_fr (XS_fr x2 f1 (by omega)) a3 (by omega), XH_fr (XH_fr x3 f1 (by omega)) a3 (by omega), XG_fr (XG_fr x4 f1 (by omega)) a3 (by omega), XT_fr (XT_fr x5 f1 (by omega)) a3 (by omega), XR_fr (XR_fr x6 f1 (by omega)) a3 (by omega), a2.1, ⟨lt', e', so', ow', st', a2.2.1, a2.2.2.1, a2.2.2.2.1, a2.2.2.2.2.1, a2.2.2.2.2.2⟩⟩, zFr_trans (zFr_mono f1 (by omega)) (zFr_mono a3 (by omega)), a4, a2⟩
  simp (disch := omega) only [zen_134, e_134_0, e_134_1, e_134_2, e_134_5, e_134_6, e_134_7, e_134_10, e_134_11, e_134_14, e_134_15, e_134_18, e_134_21, zgf_8_11, zgf_8_6, zgf_8_7, zpf_8_11, zPa_some, zPn_some, zRK_some, zRK_none, zCk_t, zis_ob, zget_set_eq, zget_set_ne, zAld_10, zAld_11, zAst_10, zAst_11, zAlen_10, zAlen_11, zbd_t, zbd_f, zb_t, zb_f, zset_set, s_one0, s_one1, zis_so, h0, p17, p12, a1]
theorem RI_plan (ri : RI v G R D) (h : ¬ v 32 = 20) : RI (zuN v 32 (v 32 + 1)) G R D := by
  obtain ⟨⟨r1, r2, r3, r4⟩, r5⟩ := ri
  exact ⟨⟨r1, r2, r3, r4.1, r4.2.1, by show 0 ≤ v 32 + 1; omega, by show v 32 + 1 ≤ 20; omega⟩, r5⟩
theorem MI_PN (y : MI c v F C G R D M) : ∃ w wh bw g bg, zAg w v ∧ PN c w R D wh bw g bg M := by
  obtain ⟨w, ha, h0, h1, h2, h3, ⟨A4, h4⟩, h5, h6, h7, h8, h9, h10, h11, h12, h13, h14, ⟨A15, h15⟩, ⟨A16, h16⟩, ⟨A17, h17⟩, A18, h18⟩ := y
  exact ⟨w, A15, A16, A17, A18, ha, h0, h10, h11, h12, h13, h14, h15, h16, h17, h18⟩
theorem PN_MI {w : Nat → Int} {M' : zM} {v' : Nat → Int} {wh bw g bg : Int → Int} (y : MI c v F C G R D M) (p : PN c w R D wh bw g bg M') (ag : zAg w v') (f : zFp c M M') : MI c v' F C G R D M' := by
  obtain ⟨w0, ha, h0, h1, h2, h3, ⟨A4, h4⟩, h5, h6, h7, h8, h9, h10, h11, h12, h13, h14, ⟨A15, h15⟩, ⟨A16, h16⟩, ⟨A17, h17⟩, A18, h18⟩ := y
  obtain ⟨p0, p1, p2, p3, p4, p5, p6, p7, p8, p9⟩ := p
  exact ⟨w, ag, p0, (f.1 _ (by omega) (by omega)).trans h1, (f.1 _ (by omega) (by omega)).trans h2, (f.1 _ (by omega) (by omega)).trans h3, ⟨A4, (f.1 _ (by omega) (by omega)).trans h4⟩, (f.1 _ (by omega) (by omega)).trans h5, (f.1 _ (by omega) (by omega)).trans h6, (f.1 _ (by omega) (by omega)).trans h7, (f.1 _ (by omega) (by omega)).trans h8, (f.1 _ (by omega) (by omega)).trans h9, p1, p2, p3, p4, p5, ⟨_, p6⟩, ⟨_, p7⟩, ⟨_, p8⟩, _, p9⟩
theorem zFp_zFr {M' : zM} (f : zFp c M M') : zFr c 19 M M' := ⟨fun a h => f.1 a (by omega) (by omega), f.2⟩
/-- what the three calls share, the reference's side -/
theorem m_core (rm : RM R D) (rv : RV v) {ow st : Int → Int} {lt : Int} (s : SOL R D (v 31) ow st lt) (y : MI c v F C G R D M) : ∃ (w : Nat → Int) (M1 M2 : zM) (w' : Nat → Int) (wh' bw' g' bg' : Int → Int), zAg w v ∧ zget M c = some (zMo c w) ∧ M1 = zset M c (zMo c (zuN w 32 (v 32 + 1))) ∧ (∀ (d : Nat) (K : zK), zC (d + 7) 212 [.ref c] M1 K = K (some (.int (zi lt))) M2) ∧ PN c w' R D wh' bw' g' bg' M2 ∧ MI c (zuN v 32 (v 32 + 1)) F C G R D M2 ∧ zFr c 19 M M2 ∧ (lt ≠ -1 → ∀ m, 0 ≤ m → m < 6 → D m = true → wh' m = ow m ∧ bg' m = st m) := by
  obtain ⟨w, wh, bw, g, bg, ag, p⟩ := MI_PN y
  have hH : 1 ≤ v 31 ∧ v 31 ≤ 3 := by have := rv.2.2.2; omega
  have q := PN_w (w' := zuN w 32 (v 32 + 1)) p
  obtain ⟨-, -, -, core⟩ := p_core (c := c) rm hH s
  obtain ⟨M2, w', wh', bw', g', bg', a1, a2, a3, a4, a5⟩ := core _ wh bw g bg _ q (ag 31 (by omega))
  have ag' : zAg w' (zuN v 32 (v 32 + 1)) := fun j hj => by
    rw [a3 j (by omega)]
    exact zAg_up ag j hj
  have f : zFp c M M2 := zFp_trans (zFp_set (by omega)) a4
  exact ⟨w, _, M2, w', wh', bw', g', bg', ag, p.1, rfl, a1, a2, PN_MI y a2 ag' f, zFp_zFr f, a5⟩
def both (b c hx : Nat) (mx mm : Nat) (as : List Value) (v : Nat → Int) (F C : Int → Bool) (G : Int → Int) (R : Nat → Int → Int) (D : Int → Bool) (M : zM) : Prop := ∃ (r : Value) (v' : Nat → Int), XCl b hx mx (.ref b :: as) r v' F C G R D M ∧ (∀ M', MI c v F C G R D M' → MCl c hx mm (.ref c :: as) r v' F C G R D M') ∧ RI v' G R D ∧ ∃ z, r = .int (zi z)
theorem p_plan (x : XI b v F C G R D M) (ri : RI v G R D) : both b c 18 129 213 [] v F C G R D M := by
  have r32 := ri.1.2.2.2
  by_cases q : v 32 = 20
  · refine ⟨.int (zi (-103)), v, XCl_p x (fun d K => ?_), fun M' y => MCl_p y (fun d K => ?_), ri, _, rfl⟩
    · have h0 := x.1.1
      simp (disch := omega) only [zen_129, e_129_0, e_129_1, e_129_4, e_129_6t, e_129_6f, e_129_9, e_129_11, e_129_12, e_129_13, e_129_16, e_129_17, e_129_20, e_129_23, zgf_5_4, zgf_8_11, zgf_8_7, zPa_some, zPn_some, zRK_some, zRK_none, zCk_t, zis_ob, zget_set_eq, zget_set_ne, zAld_10, zAld_11, zAst_10, zAst_11, zAlen_10, zAlen_11, zbd_t, zbd_f, zb_t, zb_f, zset_set, s_one0, s_one1, zis_so, h0]
    · obtain ⟨w, ha, h0, -⟩ := y
      have a32 := ha 32 (by omega)
      simp (disch := omega) only [zgm_0, zgm_1, zgm_2, zgm_3, zgm_4, zgm_5, zgm_6, zgm_7, zgm_8, zgm_9, zgm_10, zgm_11, zgm_12, zgm_13, zgm_14, zgm_15, zgm_16, zgm_17, zgm_18, zgm_19, zgm_20, zgm_21, zgm_22, zgm_23, zgm_24, zgm_25, zgm_26, zgm_27, zgm_28, zgm_29, zgm_30, zgm_31, zgm_32, zgm_33, zgm_34, zgm_35, zgm_36, zgm_37, zpm_4, zpm_5, zpm_6, zpm_7, zpm_8, zpm_9, zpm_10, zpm_11, zpm_12, zpm_13, zpm_14, zpm_15, zpm_16, zpm_17, zpm_18, zpm_22, zpm_23, zpm_31, zpm_32, zpm_36, zis_mo, zuN_eq, zuN_ne, zen_213, e_213_0, e_213_1, e_213_4, e_213_6t, e_213_6f, e_213_9, e_213_11, e_213_12, e_213_13, e_213_14, e_213_17, e_213_18, e_213_19, e_213_22, e_213_23, e_213_26, zPa_some, zPn_some, zRK_some, zRK_none, zCk_t, zis_ob, zget_set_eq, zget_set_ne, zAld_10, zAld_11, zAst_10, zAst_11, zAlen_10, zAlen_11, zbd_t, zbd_f, zb_t, zb_f, zset_set, s_one0, s_one1, zis_so, h0, a32]
  · obtain ⟨M1, e, so, ow, st, lt, a1, a2, a3, a4, a5⟩ := x_planAnew x ri
    have h0 := x.1.1
    have y0 := a2.1.1
    have y17 := a5.2.1
    refine ⟨.int (zi lt), _, ⟨M1, fun d K => ?_, a2, a3⟩, fun M' y => ?_, RI_plan ri q, _, rfl⟩
    · simp (disch := omega) only [zen_129, e_129_0, e_129_1, e_129_4, e_129_6t, e_129_6f, e_129_9, e_129_11, e_129_12, e_129_13, e_129_16, e_129_17, e_129_20, e_129_23, zgf_5_4, zgf_8_11, zgf_8_7, zPa_some, zPn_some, zRK_some, zRK_none, zCk_t, zis_ob, zget_set_eq, zget_set_ne, zAld_10, zAld_11, zAst_10, zAst_11, zAlen_10, zAlen_11, zbd_t, zbd_f, zb_t, zb_f, zset_set, s_one0, s_one1, zis_so, h0, y0, y17, a1]
    · obtain ⟨w, N1, N2, w', wh', bw', g', bg', ag, p0, hN, b1, b2, b3, b4, b5⟩ := m_core ri.2.2.2.2 ri.1 a4 y
      subst hN
      have a32 := ag 32 (by omega)
      refine ⟨N2, fun d K => ?_, b3, b4⟩
      simp (disch := omega) only [zgm_0, zgm_1, zgm_2, zgm_3, zgm_4, zgm_5, zgm_6, zgm_7, zgm_8, zgm_9, zgm_10, zgm_11, zgm_12, zgm_13, zgm_14, zgm_15, zgm_16, zgm_17, zgm_18, zgm_19, zgm_20, zgm_21, zgm_22, zgm_23, zgm_24, zgm_25, zgm_26, zgm_27, zgm_28, zgm_29, zgm_30, zgm_31, zgm_32, zgm_33, zgm_34, zgm_35, zgm_36, zgm_37, zpm_4, zpm_5, zpm_6, zpm_7, zpm_8, zpm_9, zpm_10, zpm_11, zpm_12, zpm_13, zpm_14, zpm_15, zpm_16, zpm_17, zpm_18, zpm_22, zpm_23, zpm_31, zpm_32, zpm_36, zis_mo, zuN_eq, zuN_ne, zen_213, e_213_0, e_213_1, e_213_4, e_213_6t, e_213_6f, e_213_9, e_213_11, e_213_12, e_213_13, e_213_14, e_213_17, e_213_18, e_213_19, e_213_22, e_213_23, e_213_26, zPa_some, zPn_some, zRK_some, zRK_none, zCk_t, zis_ob, zget_set_eq, zget_set_ne, zAld_10, zAld_11, zAst_10, zAst_11, zAlen_10, zAlen_11, zbd_t, zbd_f, zb_t, zb_f, zset_set, s_one0, s_one1, zis_so, p0, a32, b1]
theorem p_given (x : XI b v F C G R D M) (ri : RI v G R D) (m : Int) (hm : -2147483648 ≤ m ∧ m < 2147483648) : both b c 18 130 214 [.int (zi m)] v F C G R D M := by
  have r32 := ri.1.2.2.2
  by_cases c1 : 0 ≤ m ∧ m ≤ 5
  · by_cases q : v 32 = 20
    · refine ⟨.int (zi (-103)), v, XCl_p x (fun d K => ?_), fun M' y => MCl_p y (fun d K => ?_), ri, _, rfl⟩
      · have h0 := x.1.1
        simp (disch := omega) only [zen_130, e_130_0, e_130_1, e_130_4t, e_130_4f, e_130_7, e_130_9, e_130_10, e_130_11, e_130_14, e_130_16t, e_130_16f, e_130_19, e_130_21, e_130_22, e_130_23, e_130_26, e_130_27, e_130_30, e_130_31, e_130_34, zgf_8_11, zgf_8_7, zPa_some, zPn_some, zRK_some, zRK_none, zCk_t, zis_ob, zget_set_eq, zget_set_ne, zAld_10, zAld_11, zAst_10, zAst_11, zAlen_10, zAlen_11, zbd_t, zbd_f, zb_t, zb_f, zset_set, s_one0, s_one1, zis_so, h0, s_isMillX]
      · obtain ⟨w, ha, h0, -⟩ := y
        have a32 := ha 32 (by omega)
        simp (disch := omega) only [zgm_0, zgm_1, zgm_2, zgm_3, zgm_4, zgm_5, zgm_6, zgm_7, zgm_8, zgm_9, zgm_10, zgm_11, zgm_12, zgm_13, zgm_14, zgm_15, zgm_16, zgm_17, zgm_18, zgm_19, zgm_20, zgm_21, zgm_22, zgm_23, zgm_24, zgm_25, zgm_26, zgm_27, zgm_28, zgm_29, zgm_30, zgm_31, zgm_32, zgm_33, zgm_34, zgm_35, zgm_36, zgm_37, zpm_4, zpm_5, zpm_6, zpm_7, zpm_8, zpm_9, zpm_10, zpm_11, zpm_12, zpm_13, zpm_14, zpm_15, zpm_16, zpm_17, zpm_18, zpm_22, zpm_23, zpm_31, zpm_32, zpm_36, zis_mo, zuN_eq, zuN_ne, zen_214, e_214_0, e_214_1, e_214_4t, e_214_4f, e_214_7, e_214_9, e_214_10, e_214_11, e_214_14, e_214_16t, e_214_16f, e_214_19, e_214_21, e_214_22, e_214_23, e_214_24, e_214_27, e_214_28, e_214_29, e_214_32, e_214_33, e_214_36, e_214_37t, e_214_37f, e_214_40, e_214_41, e_214_44, e_214_45, e_214_46t, e_214_46f, e_214_49, e_214_50, e_214_53, e_214_54, e_214_57, e_214_58, e_214_59, zPa_some, zPn_some, zRK_some, zRK_none, zCk_t, zis_ob, zget_set_eq, zget_set_ne, zAld_10, zAld_11, zAst_10, zAst_11, zAlen_10, zAlen_11, zbd_t, zbd_f, zb_t, zb_f, zset_set, s_one0, s_one1, zis_so, h0, a32, s_isMillM]
    · obtain ⟨M1, e, so, ow, st, lt, a1, a2, a3, a4, a5⟩ := x_planAnew x ri
      have h0 := x.1.1
      have y0 := a2.1.1
      have y17 := a5.2.1
      have yi := s_itemOf a5.2.2.2.2.1 (by omega)
      have hH : 1 ≤ v 31 ∧ v 31 ≤ 3 := by omega
      obtain ⟨k1, k2, k3, -⟩ := p_core (c := c) ri.2.2.2.2 hH a4
      refine ⟨.int (zi (ow m)), _, ⟨M1, fun d K => ?_, a2, a3⟩, fun M' y => ?_, RI_plan ri q, _, rfl⟩
      · simp (disch := omega) only [zen_130, e_130_0, e_130_1, e_130_4t, e_130_4f, e_130_7, e_130_9, e_130_10, e_130_11, e_130_14, e_130_16t, e_130_16f, e_130_19, e_130_21, e_130_22, e_130_23, e_130_26, e_130_27, e_130_30, e_130_31, e_130_34, zgf_8_11, zgf_8_7, zen_51, e_51_0, e_51_1, e_51_4, e_51_5, e_51_8, zgf_5_2, zPa_some, zPn_some, zRK_some, zRK_none, zCk_t, zis_ob, zget_set_eq, zget_set_ne, zAld_10, zAld_11, zAst_10, zAst_11, zAlen_10, zAlen_11, zbd_t, zbd_f, zb_t, zb_f, zset_set, s_one0, s_one1, zis_so, h0, y0, y17, yi, a1, s_isMillX]
      · obtain ⟨w, N1, N2, w', wh', bw', g', bg', ag, p0, hN, b1, b2, b3, b4, b5⟩ := m_core ri.2.2.2.2 ri.1 a4 y
        subst hN
        have a32 := ag 32 (by omega)
        obtain ⟨p0', p1, p2, p3, p4, p5, p6, p7, p8, p9⟩ := b2
        refine ⟨N2, fun d K => ?_, b3, b4⟩
        by_cases cl : lt = -1
        · rw [(k1 m c1.1 (by omega) (Or.inl cl)).1]
          subst cl
          simp (disch := omega) only [zgm_0, zgm_1, zgm_2, zgm_3, zgm_4, zgm_5, zgm_6, zgm_7, zgm_8, zgm_9, zgm_10, zgm_11, zgm_12, zgm_13, zgm_14, zgm_15, zgm_16, zgm_17, zgm_18, zgm_19, zgm_20, zgm_21, zgm_22, zgm_23, zgm_24, zgm_25, zgm_26, zgm_27, zgm_28, zgm_29, zgm_30, zgm_31, zgm_32, zgm_33, zgm_34, zgm_35, zgm_36, zgm_37, zpm_4, zpm_5, zpm_6, zpm_7, zpm_8, zpm_9, zpm_10, zpm_11, zpm_12, zpm_13, zpm_14, zpm_15, zpm_16, zpm_17, zpm_18, zpm_22, zpm_23, zpm_31, zpm_32, zpm_36, zis_mo, zuN_eq, zuN_ne, zen_214, e_214_0, e_214_1, e_214_4t, e_214_4f, e_214_7, e_214_9, e_214_10, e_214_11, e_214_14, e_214_16t, e_214_16f, e_214_19, e_214_21, e_214_22, e_214_23, e_214_24, e_214_27, e_214_28, e_214_29, e_214_32, e_214_33, e_214_36, e_214_37t, e_214_37f, e_214_40, e_214_41, e_214_44, e_214_45, e_214_46t, e_214_46f, e_214_49, e_214_50, e_214_53, e_214_54, e_214_57, e_214_58, e_214_59, zPa_some, zPn_some, zRK_some, zRK_none, zCk_t, zis_ob, zget_set_eq, zget_set_ne, zAld_10, zAld_11, zAst_10, zAst_11, zAlen_10, zAlen_11, zbd_t, zbd_f, zb_t, zb_f, zset_set, s_one0, s_one1, zis_so, p0, p0', a32, b1, s_isMillM]
        · cases qd : D m with
          | false =>
            rw [(k1 m c1.1 (by omega) (Or.inr qd)).1]
            simp (disch := omega) only [zgm_0, zgm_1, zgm_2, zgm_3, zgm_4, zgm_5, zgm_6, zgm_7, zgm_8, zgm_9, zgm_10, zgm_11, zgm_12, zgm_13, zgm_14, zgm_15, zgm_16, zgm_17, zgm_18, zgm_19, zgm_20, zgm_21, zgm_22, zgm_23, zgm_24, zgm_25, zgm_26, zgm_27, zgm_28, zgm_29, zgm_30, zgm_31, zgm_32, zgm_33, zgm_34, zgm_35, zgm_36, zgm_37, zpm_4, zpm_5, zpm_6, zpm_7, zpm_8, zpm_9, zpm_10, zpm_11, zpm_12, zpm_13, zpm_14, zpm_15, zpm_16, zpm_17, zpm_18, zpm_22, zpm_23, zpm_31, zpm_32, zpm_36, zis_mo, zuN_eq, zuN_ne, zen_214, e_214_0, e_214_1, e_214_4t, e_214_4f, e_214_7, e_214_9, e_214_10, e_214_11, e_214_14, e_214_16t, e_214_16f, e_214_19, e_214_21, e_214_22, e_214_23, e_214_24, e_214_27, e_214_28, e_214_29, e_214_32, e_214_33, e_214_36, e_214_37t, e_214_37f, e_214_40, e_214_41, e_214_44, e_214_45, e_214_46t, e_214_46f, e_214_49, e_214_50, e_214_53, e_214_54, e_214_57, e_214_58, e_214_59, zPa_some, zPn_some, zRK_some, zRK_none, zCk_t, zis_ob, zget_set_eq, zget_set_ne, zAld_10, zAld_11, zAst_10, zAst_11, zAlen_10, zAlen_11, zbd_t, zbd_f, zb_t, zb_f, zset_set, s_one0, s_one1, zis_so, p0, p0', p1, a32, b1, s_isMillM, zAld_b, qd]
          | true =>
            rw [← (b5 cl m c1.1 (by omega) qd).1]
            simp (disch := omega) only [zgm_0, zgm_1, zgm_2, zgm_3, zgm_4, zgm_5, zgm_6, zgm_7, zgm_8, zgm_9, zgm_10, zgm_11, zgm_12, zgm_13, zgm_14, zgm_15, zgm_16, zgm_17, zgm_18, zgm_19, zgm_20, zgm_21, zgm_22, zgm_23, zgm_24, zgm_25, zgm_26, zgm_27, zgm_28, zgm_29, zgm_30, zgm_31, zgm_32, zgm_33, zgm_34, zgm_35, zgm_36, zgm_37, zpm_4, zpm_5, zpm_6, zpm_7, zpm_8, zpm_9, zpm_10, zpm_11, zpm_12, zpm_13, zpm_14, zpm_15, zpm_16, zpm_17, zpm_18, zpm_22, zpm_23, zpm_31, zpm_32, zpm_36, zis_mo, zuN_eq, zuN_ne, zen_214, e_214_0, e_214_1, e_214_4t, e_214_4f, e_214_7, e_214_9, e_214_10, e_214_11, e_214_14, e_214_16t, e_214_16f, e_214_19, e_214_21, e_214_22, e_214_23, e_214_24, e_214_27, e_214_28, e_214_29, e_214_32, e_214_33, e_214_36, e_214_37t, e_214_37f, e_214_40, e_214_41, e_214_44, e_214_45, e_214_46t, e_214_46f, e_214_49, e_214_50, e_214_53, e_214_54, e_214_57, e_214_58, e_214_59, zPa_some, zPn_some, zRK_some, zRK_none, zCk_t, zis_ob, zget_set_eq, zget_set_ne, zAld_10, zAld_11, zAst_10, zAst_11, zAlen_10, zAlen_11, zbd_t, zbd_f, zb_t, zb_f, zset_set, s_one0, s_one1, zis_so, p0, p0', p1, p6, a32, b1, s_isMillM, zAld_b, qd]
  · refine ⟨.int (zi (-101)), v, XCl_p x (fun d K => ?_), fun M' y => MCl_p y (fun d K => ?_), ri, _, rfl⟩
    · simp (disch := omega) only [zen_130, e_130_0, e_130_1, e_130_4t, e_130_4f, e_130_7, e_130_9, e_130_10, e_130_11, e_130_14, e_130_16t, e_130_16f, e_130_19, e_130_21, e_130_22, e_130_23, e_130_26, e_130_27, e_130_30, e_130_31, e_130_34, zgf_8_11, zgf_8_7, zPa_some, zPn_some, zRK_some, zRK_none, zCk_t, zis_ob, zget_set_eq, zget_set_ne, zAld_10, zAld_11, zAst_10, zAst_11, zAlen_10, zAlen_11, zbd_t, zbd_f, zb_t, zb_f, zset_set, s_one0, s_one1, zis_so, s_isMillX]
    · simp (disch := omega) only [zgm_0, zgm_1, zgm_2, zgm_3, zgm_4, zgm_5, zgm_6, zgm_7, zgm_8, zgm_9, zgm_10, zgm_11, zgm_12, zgm_13, zgm_14, zgm_15, zgm_16, zgm_17, zgm_18, zgm_19, zgm_20, zgm_21, zgm_22, zgm_23, zgm_24, zgm_25, zgm_26, zgm_27, zgm_28, zgm_29, zgm_30, zgm_31, zgm_32, zgm_33, zgm_34, zgm_35, zgm_36, zgm_37, zpm_4, zpm_5, zpm_6, zpm_7, zpm_8, zpm_9, zpm_10, zpm_11, zpm_12, zpm_13, zpm_14, zpm_15, zpm_16, zpm_17, zpm_18, zpm_22, zpm_23, zpm_31, zpm_32, zpm_36, zis_mo, zuN_eq, zuN_ne, zen_214, e_214_0, e_214_1, e_214_4t, e_214_4f, e_214_7, e_214_9, e_214_10, e_214_11, e_214_14, e_214_16t, e_214_16f, e_214_19, e_214_21, e_214_22, e_214_23, e_214_24, e_214_27, e_214_28, e_214_29, e_214_32, e_214_33, e_214_36, e_214_37t, e_214_37f, e_214_40, e_214_41, e_214_44, e_214_45, e_214_46t, e_214_46f, e_214_49, e_214_50, e_214_53, e_214_54, e_214_57, e_214_58, e_214_59, zPa_some, zPn_some, zRK_some, zRK_none, zCk_t, zis_ob, zget_set_eq, zget_set_ne, zAld_10, zAld_11, zAst_10, zAst_11, zAlen_10, zAlen_11, zbd_t, zbd_f, zb_t, zb_f, zset_set, s_one0, s_one1, zis_so, s_isMillM]
theorem p_begun (x : XI b v F C G R D M) (ri : RI v G R D) (m : Int) (hm : -2147483648 ≤ m ∧ m < 2147483648) : both b c 18 131 215 [.int (zi m)] v F C G R D M := by
  have r32 := ri.1.2.2.2
  by_cases c1 : 0 ≤ m ∧ m ≤ 5
  · by_cases q : v 32 = 20
    · refine ⟨.int (zi (-103)), v, XCl_p x (fun d K => ?_), fun M' y => MCl_p y (fun d K => ?_), ri, _, rfl⟩
      · have h0 := x.1.1
        simp (disch := omega) only [zen_131, e_131_0, e_131_1, e_131_4t, e_131_4f, e_131_7, e_131_9, e_131_10, e_131_11, e_131_14, e_131_16t, e_131_16f, e_131_19, e_131_21, e_131_22, e_131_23, e_131_26, e_131_27, e_131_30, e_131_31, e_131_34, zgf_8_11, zgf_8_7, zPa_some, zPn_some, zRK_some, zRK_none, zCk_t, zis_ob, zget_set_eq, zget_set_ne, zAld_10, zAld_11, zAst_10, zAst_11, zAlen_10, zAlen_11, zbd_t, zbd_f, zb_t, zb_f, zset_set, s_one0, s_one1, zis_so, h0, s_isMillX]
      · obtain ⟨w, ha, h0, -⟩ := y
        have a32 := ha 32 (by omega)
        simp (disch := omega) only [zgm_0, zgm_1, zgm_2, zgm_3, zgm_4, zgm_5, zgm_6, zgm_7, zgm_8, zgm_9, zgm_10, zgm_11, zgm_12, zgm_13, zgm_14, zgm_15, zgm_16, zgm_17, zgm_18, zgm_19, zgm_20, zgm_21, zgm_22, zgm_23, zgm_24, zgm_25, zgm_26, zgm_27, zgm_28, zgm_29, zgm_30, zgm_31, zgm_32, zgm_33, zgm_34, zgm_35, zgm_36, zgm_37, zpm_4, zpm_5, zpm_6, zpm_7, zpm_8, zpm_9, zpm_10, zpm_11, zpm_12, zpm_13, zpm_14, zpm_15, zpm_16, zpm_17, zpm_18, zpm_22, zpm_23, zpm_31, zpm_32, zpm_36, zis_mo, zuN_eq, zuN_ne, zen_215, e_215_0, e_215_1, e_215_4t, e_215_4f, e_215_7, e_215_9, e_215_10, e_215_11, e_215_14, e_215_16t, e_215_16f, e_215_19, e_215_21, e_215_22, e_215_23, e_215_24, e_215_27, e_215_28, e_215_29, e_215_32, e_215_33, e_215_36, e_215_37t, e_215_37f, e_215_40, e_215_41, e_215_44, e_215_45, e_215_46t, e_215_46f, e_215_49, e_215_50, e_215_53, e_215_54, e_215_57, e_215_58, e_215_59, zPa_some, zPn_some, zRK_some, zRK_none, zCk_t, zis_ob, zget_set_eq, zget_set_ne, zAld_10, zAld_11, zAst_10, zAst_11, zAlen_10, zAlen_11, zbd_t, zbd_f, zb_t, zb_f, zset_set, s_one0, s_one1, zis_so, h0, a32, s_isMillM]
    · obtain ⟨M1, e, so, ow, st, lt, a1, a2, a3, a4, a5⟩ := x_planAnew x ri
      have h0 := x.1.1
      have y0 := a2.1.1
      have y17 := a5.2.1
      have yi := s_itemOf a5.2.2.2.2.2 (by omega)
      have hH : 1 ≤ v 31 ∧ v 31 ≤ 3 := by omega
      obtain ⟨k1, k2, k3, -⟩ := p_core (c := c) ri.2.2.2.2 hH a4
      refine ⟨.int (zi (st m)), _, ⟨M1, fun d K => ?_, a2, a3⟩, fun M' y => ?_, RI_plan ri q, _, rfl⟩
      · simp (disch := omega) only [zen_131, e_131_0, e_131_1, e_131_4t, e_131_4f, e_131_7, e_131_9, e_131_10, e_131_11, e_131_14, e_131_16t, e_131_16f, e_131_19, e_131_21, e_131_22, e_131_23, e_131_26, e_131_27, e_131_30, e_131_31, e_131_34, zgf_8_11, zgf_8_7, zen_52, e_52_0, e_52_1, e_52_4, e_52_5, e_52_8, zgf_5_3, zPa_some, zPn_some, zRK_some, zRK_none, zCk_t, zis_ob, zget_set_eq, zget_set_ne, zAld_10, zAld_11, zAst_10, zAst_11, zAlen_10, zAlen_11, zbd_t, zbd_f, zb_t, zb_f, zset_set, s_one0, s_one1, zis_so, h0, y0, y17, yi, a1, s_isMillX]
      · obtain ⟨w, N1, N2, w', wh', bw', g', bg', ag, p0, hN, b1, b2, b3, b4, b5⟩ := m_core ri.2.2.2.2 ri.1 a4 y
        subst hN
        have a32 := ag 32 (by omega)
        obtain ⟨p0', p1, p2, p3, p4, p5, p6, p7, p8, p9⟩ := b2
        refine ⟨N2, fun d K => ?_, b3, b4⟩
        by_cases cl : lt = -1
        · rw [(k1 m c1.1 (by omega) (Or.inl cl)).2]
          subst cl
          simp (disch := omega) only [zgm_0, zgm_1, zgm_2, zgm_3, zgm_4, zgm_5, zgm_6, zgm_7, zgm_8, zgm_9, zgm_10, zgm_11, zgm_12, zgm_13, zgm_14, zgm_15, zgm_16, zgm_17, zgm_18, zgm_19, zgm_20, zgm_21, zgm_22, zgm_23, zgm_24, zgm_25, zgm_26, zgm_27, zgm_28, zgm_29, zgm_30, zgm_31, zgm_32, zgm_33, zgm_34, zgm_35, zgm_36, zgm_37, zpm_4, zpm_5, zpm_6, zpm_7, zpm_8, zpm_9, zpm_10, zpm_11, zpm_12, zpm_13, zpm_14, zpm_15, zpm_16, zpm_17, zpm_18, zpm_22, zpm_23, zpm_31, zpm_32, zpm_36, zis_mo, zuN_eq, zuN_ne, zen_215, e_215_0, e_215_1, e_215_4t, e_215_4f, e_215_7, e_215_9, e_215_10, e_215_11, e_215_14, e_215_16t, e_215_16f, e_215_19, e_215_21, e_215_22, e_215_23, e_215_24, e_215_27, e_215_28, e_215_29, e_215_32, e_215_33, e_215_36, e_215_37t, e_215_37f, e_215_40, e_215_41, e_215_44, e_215_45, e_215_46t, e_215_46f, e_215_49, e_215_50, e_215_53, e_215_54, e_215_57, e_215_58, e_215_59, zPa_some, zPn_some, zRK_some, zRK_none, zCk_t, zis_ob, zget_set_eq, zget_set_ne, zAld_10, zAld_11, zAst_10, zAst_11, zAlen_10, zAlen_11, zbd_t, zbd_f, zb_t, zb_f, zset_set, s_one0, s_one1, zis_so, p0, p0', a32, b1, s_isMillM]
        · cases qd : D m with
          | false =>
            rw [(k1 m c1.1 (by omega) (Or.inr qd)).2]
            simp (disch := omega) only [zgm_0, zgm_1, zgm_2, zgm_3, zgm_4, zgm_5, zgm_6, zgm_7, zgm_8, zgm_9, zgm_10, zgm_11, zgm_12, zgm_13, zgm_14, zgm_15, zgm_16, zgm_17, zgm_18, zgm_19, zgm_20, zgm_21, zgm_22, zgm_23, zgm_24, zgm_25, zgm_26, zgm_27, zgm_28, zgm_29, zgm_30, zgm_31, zgm_32, zgm_33, zgm_34, zgm_35, zgm_36, zgm_37, zpm_4, zpm_5, zpm_6, zpm_7, zpm_8, zpm_9, zpm_10, zpm_11, zpm_12, zpm_13, zpm_14, zpm_15, zpm_16, zpm_17, zpm_18, zpm_22, zpm_23, zpm_31, zpm_32, zpm_36, zis_mo, zuN_eq, zuN_ne, zen_215, e_215_0, e_215_1, e_215_4t, e_215_4f, e_215_7, e_215_9, e_215_10, e_215_11, e_215_14, e_215_16t, e_215_16f, e_215_19, e_215_21, e_215_22, e_215_23, e_215_24, e_215_27, e_215_28, e_215_29, e_215_32, e_215_33, e_215_36, e_215_37t, e_215_37f, e_215_40, e_215_41, e_215_44, e_215_45, e_215_46t, e_215_46f, e_215_49, e_215_50, e_215_53, e_215_54, e_215_57, e_215_58, e_215_59, zPa_some, zPn_some, zRK_some, zRK_none, zCk_t, zis_ob, zget_set_eq, zget_set_ne, zAld_10, zAld_11, zAst_10, zAst_11, zAlen_10, zAlen_11, zbd_t, zbd_f, zb_t, zb_f, zset_set, s_one0, s_one1, zis_so, p0, p0', p1, a32, b1, s_isMillM, zAld_b, qd]
          | true =>
            rw [← (b5 cl m c1.1 (by omega) qd).2]
            simp (disch := omega) only [zgm_0, zgm_1, zgm_2, zgm_3, zgm_4, zgm_5, zgm_6, zgm_7, zgm_8, zgm_9, zgm_10, zgm_11, zgm_12, zgm_13, zgm_14, zgm_15, zgm_16, zgm_17, zgm_18, zgm_19, zgm_20, zgm_21, zgm_22, zgm_23, zgm_24, zgm_25, zgm_26, zgm_27, zgm_28, zgm_29, zgm_30, zgm_31, zgm_32, zgm_33, zgm_34, zgm_35, zgm_36, zgm_37, zpm_4, zpm_5, zpm_6, zpm_7, zpm_8, zpm_9, zpm_10, zpm_11, zpm_12, zpm_13, zpm_14, zpm_15, zpm_16, zpm_17, zpm_18, zpm_22, zpm_23, zpm_31, zpm_32, zpm_36, zis_mo, zuN_eq, zuN_ne, zen_215, e_215_0, e_215_1, e_215_4t, e_215_4f, e_215_7, e_215_9, e_215_10, e_215_11, e_215_14, e_215_16t, e_215_16f, e_215_19, e_215_21, e_215_22, e_215_23, e_215_24, e_215_27, e_215_28, e_215_29, e_215_32, e_215_33, e_215_36, e_215_37t, e_215_37f, e_215_40, e_215_41, e_215_44, e_215_45, e_215_46t, e_215_46f, e_215_49, e_215_50, e_215_53, e_215_54, e_215_57, e_215_58, e_215_59, zPa_some, zPn_some, zRK_some, zRK_none, zCk_t, zis_ob, zget_set_eq, zget_set_ne, zAld_10, zAld_11, zAst_10, zAst_11, zAlen_10, zAlen_11, zbd_t, zbd_f, zb_t, zb_f, zset_set, s_one0, s_one1, zis_so, p0, p0', p1, p9, a32, b1, s_isMillM, zAld_b, qd]
  · refine ⟨.int (zi (-101)), v, XCl_p x (fun d K => ?_), fun M' y => MCl_p y (fun d K => ?_), ri, _, rfl⟩
    · simp (disch := omega) only [zen_131, e_131_0, e_131_1, e_131_4t, e_131_4f, e_131_7, e_131_9, e_131_10, e_131_11, e_131_14, e_131_16t, e_131_16f, e_131_19, e_131_21, e_131_22, e_131_23, e_131_26, e_131_27, e_131_30, e_131_31, e_131_34, zgf_8_11, zgf_8_7, zPa_some, zPn_some, zRK_some, zRK_none, zCk_t, zis_ob, zget_set_eq, zget_set_ne, zAld_10, zAld_11, zAst_10, zAst_11, zAlen_10, zAlen_11, zbd_t, zbd_f, zb_t, zb_f, zset_set, s_one0, s_one1, zis_so, s_isMillX]
    · simp (disch := omega) only [zgm_0, zgm_1, zgm_2, zgm_3, zgm_4, zgm_5, zgm_6, zgm_7, zgm_8, zgm_9, zgm_10, zgm_11, zgm_12, zgm_13, zgm_14, zgm_15, zgm_16, zgm_17, zgm_18, zgm_19, zgm_20, zgm_21, zgm_22, zgm_23, zgm_24, zgm_25, zgm_26, zgm_27, zgm_28, zgm_29, zgm_30, zgm_31, zgm_32, zgm_33, zgm_34, zgm_35, zgm_36, zgm_37, zpm_4, zpm_5, zpm_6, zpm_7, zpm_8, zpm_9, zpm_10, zpm_11, zpm_12, zpm_13, zpm_14, zpm_15, zpm_16, zpm_17, zpm_18, zpm_22, zpm_23, zpm_31, zpm_32, zpm_36, zis_mo, zuN_eq, zuN_ne, zen_215, e_215_0, e_215_1, e_215_4t, e_215_4f, e_215_7, e_215_9, e_215_10, e_215_11, e_215_14, e_215_16t, e_215_16f, e_215_19, e_215_21, e_215_22, e_215_23, e_215_24, e_215_27, e_215_28, e_215_29, e_215_32, e_215_33, e_215_36, e_215_37t, e_215_37f, e_215_40, e_215_41, e_215_44, e_215_45, e_215_46t, e_215_46f, e_215_49, e_215_50, e_215_53, e_215_54, e_215_57, e_215_58, e_215_59, zPa_some, zPn_some, zRK_some, zRK_none, zCk_t, zis_ob, zget_set_eq, zget_set_ne, zAld_10, zAld_11, zAst_10, zAst_11, zAlen_10, zAlen_11, zbd_t, zbd_f, zb_t, zb_f, zset_set, s_one0, s_one1, zis_so, s_isMillM]
end PLANS
