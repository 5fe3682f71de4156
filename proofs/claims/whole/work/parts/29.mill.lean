/-! a stone's row set anew -/
section UP
variable {b : Nat} {k : Int} {F C : Int → Bool} {G : Int → Int} {M : zM}
theorem zst_ne {j k : Int} (h : 0 ≤ j ∧ 0 ≤ k ∧ j ≠ k) : zst b j + 6 ≤ zst b k ∨ zst b k + 6 ≤ zst b j := by unfold zst; omega
theorem XS_upG {g G' : Int → Int} (x : XS b F C G M) (hk : 0 ≤ k ∧ k ≤ 3) (h1 : ∀ j, 0 ≤ j → j < 192 → g j = G' (192 * k + j)) (h2 : ∀ s, 0 ≤ s → s < 768 → (s < 192 * k ∨ 192 * k + 192 ≤ s) → G' s = G s) : XS b F C G' (zset M (zst b k + 3) (zA 10 192 g)) := by
  intro j a1 a2
  by_cases hj : j = k
  · subst hj
    obtain ⟨q1, q2, q3, q4, ⟨A, q5⟩, B, q6⟩ := x j a1 a2
    refine ⟨(zget_set_ne (by omega)).trans q1, (zget_set_ne (by omega)).trans q2, (zget_set_ne (by omega)).trans q3, ?_, ⟨A, (zget_set_ne (by omega)).trans q5⟩, B, (zget_set_ne (by omega)).trans q6⟩
    rw [zget_set_eq, zA_ext (g := g) (g' := sh j G') (fun i i1 i2 => h1 i i1 (by omega))]
  · have hn := zst_ne (b := b) (j := j) (k := k) ⟨a1, hk.1, hj⟩
    obtain ⟨q1, q2, q3, q4, q5, q6⟩ := XS1_fr (x j a1 a2) (zFr_set (lo := zst b k + 3) (n := 1) (a := zst b k + 3) (x := zA 10 192 g) (by omega)) (by omega)
    refine ⟨q1, q2, q3, ?_, q5, q6⟩
    rw [q4, zA_ext (g := sh j G) (g' := sh j G') (fun i i1 i2 => (h2 (192 * j + i) (by omega) (by omega) (by omega)).symm)]
theorem XS_upF {g F' : Int → Bool} (x : XS b F C G M) (hk : 0 ≤ k ∧ k ≤ 3) (h1 : ∀ j, 0 ≤ j → j < 192 → g j = F' (192 * k + j)) (h2 : ∀ s, 0 ≤ s → s < 768 → (s < 192 * k ∨ 192 * k + 192 ≤ s) → F' s = F s) : XS b F' C G (zset M (zst b k + 1) (zAb 192 g)) := by
  intro j a1 a2
  by_cases hj : j = k
  · subst hj
    obtain ⟨q1, q2, q3, q4, ⟨A, q5⟩, B, q6⟩ := x j a1 a2
    refine ⟨(zget_set_ne (by omega)).trans q1, ?_, (zget_set_ne (by omega)).trans q3, (zget_set_ne (by omega)).trans q4, ⟨A, (zget_set_ne (by omega)).trans q5⟩, B, (zget_set_ne (by omega)).trans q6⟩
    rw [zget_set_eq, zAb_ext (F := g) (F' := sh j F') (fun i i1 i2 => h1 i i1 (by omega))]
  · have hn := zst_ne (b := b) (j := j) (k := k) ⟨a1, hk.1, hj⟩
    obtain ⟨q1, q2, q3, q4, q5, q6⟩ := XS1_fr (x j a1 a2) (zFr_set (lo := zst b k + 1) (n := 1) (a := zst b k + 1) (x := zAb 192 g) (by omega)) (by omega)
    refine ⟨q1, ?_, q3, q4, q5, q6⟩
    rw [q2, zAb_ext (F := sh j F) (F' := sh j F') (fun i i1 i2 => (h2 (192 * j + i) (by omega) (by omega) (by omega)).symm)]
theorem XS_upC {g C' : Int → Bool} (x : XS b F C G M) (hk : 0 ≤ k ∧ k ≤ 3) (h1 : ∀ j, 0 ≤ j → j < 192 → g j = C' (192 * k + j)) (h2 : ∀ s, 0 ≤ s → s < 768 → (s < 192 * k ∨ 192 * k + 192 ≤ s) → C' s = C s) : XS b F C' G (zset M (zst b k + 2) (zAb 192 g)) := by
  intro j a1 a2
  by_cases hj : j = k
  · subst hj
    obtain ⟨q1, q2, q3, q4, ⟨A, q5⟩, B, q6⟩ := x j a1 a2
    refine ⟨(zget_set_ne (by omega)).trans q1, (zget_set_ne (by omega)).trans q2, ?_, (zget_set_ne (by omega)).trans q4, ⟨A, (zget_set_ne (by omega)).trans q5⟩, B, (zget_set_ne (by omega)).trans q6⟩
    rw [zget_set_eq, zAb_ext (F := g) (F' := sh j C') (fun i i1 i2 => h1 i i1 (by omega))]
  · have hn := zst_ne (b := b) (j := j) (k := k) ⟨a1, hk.1, hj⟩
    obtain ⟨q1, q2, q3, q4, q5, q6⟩ := XS1_fr (x j a1 a2) (zFr_set (lo := zst b k + 2) (n := 1) (a := zst b k + 2) (x := zAb 192 g) (by omega)) (by omega)
    refine ⟨q1, q2, ?_, q4, q5, q6⟩
    rw [q3, zAb_ext (F := sh j C) (F' := sh j C') (fun i i1 i2 => (h2 (192 * j + i) (by omega) (by omega) (by omega)).symm)]
theorem RGh_sh (rG : RGh G) (hk : 0 ≤ k ∧ k ≤ 3) : ∀ j, 0 ≤ j → j < 192 → 0 ≤ sh k G j ∧ sh k G j ≤ 60 := fun j h1 h2 => rG _ (by omega) (by omega)
end UP
/-! wear: the two tops -/
theorem f_top_max {F2 F : Int → Bool} {G : Int → Int} {a : Int} : ∀ (n : Nat) (i t : Int), zfor (f_top F2 F G) n i (max a t) = max a (zfor (f_top F2 F G) n i t) := by
  intro n
  induction n with
  | zero => intro i t; rfl
  | succ n ih =>
    intro i t
    rw [zfor_s, zfor_s, ← ih]
    congr 1
    unfold f_top
    split <;> omega
theorem f_top_mono {F2 F : Int → Bool} {G : Int → Int} : ∀ (n : Nat) (i t : Int), t ≤ zfor (f_top F2 F G) n i t := by
  intro n
  induction n with
  | zero => intro i t; exact Int.le_refl _
  | succ n ih =>
    intro i t
    rw [zfor_s]
    refine Int.le_trans ?_ (ih _ _)
    unfold f_top
    split <;> omega
theorem f_top_ge {F2 F : Int → Bool} {G : Int → Int} : ∀ (n : Nat) (i t s : Int), i ≤ s → s < i + n → grd F2 (s / 24) = true → F s = false → G s ≤ zfor (f_top F2 F G) n i t := by
  intro n
  induction n with
  | zero => intro i t s h1 h2; omega
  | succ n ih =>
    intro i t s h1 h2 h3 h4
    rw [zfor_s]
    by_cases hs : s = i
    · subst hs
      refine Int.le_trans ?_ (f_top_mono _ _ _)
      unfold f_top
      rw [if_pos ⟨h3, h4⟩]
      omega
    · exact ih _ _ _ (by omega) (by omega) h3 h4
/-- where the two tops differ, no land is ground -/
theorem f_top_two {F2 F : Int → Bool} {G : Int → Int} (rG : ∀ j, 0 ≤ j → j < 192 → 0 ≤ G j ∧ G j ≤ 60) {s : Int} (h0 : 0 ≤ s) (h1 : s < 192) (h3 : grd F2 (s / 24) = true) (h4 : F s = false) : zfor (f_top F2 F G) 192 0 0 = zfor (f_top F2 F G) 192 0 (-1) := by
  have e := f_top_max (F2 := F2) (F := F) (G := G) (a := 0) 192 0 (-1)
  have g := f_top_ge (F2 := F2) (F := F) (G := G) 192 0 (-1) s h0 (by omega) h3 h4
  have r := rG s h0 h1
  rw [show max (0 : Int) (-1) = 0 by decide] at e
  omega
theorem f_wA_two {F2 F C : Int → Bool} {G : Int → Int} (rG : ∀ j, 0 ≤ j → j < 192 → 0 ≤ G j ∧ G j ≤ 60) : zfor (f_wA F2 F C G (zfor (f_top F2 F G) 192 0 0)) 192 0 0 = zfor (f_wA F2 F C G (zfor (f_top F2 F G) 192 0 (-1))) 192 0 0 := by
  refine zfor_congr 192 0 0 (fun s t h1 h2 => ?_)
  unfold f_wA f_wl
  by_cases h3 : grd F2 (s / 24) = true
  · cases h4 : F s with
    | false => rw [f_top_two rG h1 (by omega) h3 h4]
    | true => simp
  · simp [h3]
theorem gwA_two {F2 F C : Int → Bool} {G : Int → Int} (rG : ∀ j, 0 ≤ j → j < 192 → 0 ≤ G j ∧ G j ≤ 60) {s : Int} (h0 : 0 ≤ s) (h1 : s < 192) : gwA F2 F C G (zfor (f_top F2 F G) 192 0 0) 0 s = gwA F2 F C G (zfor (f_top F2 F G) 192 0 (-1)) 0 s := by
  unfold gwA wst
  by_cases h3 : grd F2 (s / 24) = true
  · cases h4 : F s with
    | false => rw [f_top_two rG h0 h1 h3 h4]
    | true => simp
  · simp [h3]
def wT (F C : Int → Bool) (G : Int → Int) (k o : Int) : Int := zfor (f_wA (sh o F) (sh k F) (sh k C) (sh k G) (zfor (f_top (sh o F) (sh k F) (sh k G)) 192 0 (-1))) 192 0 0
def wG (F C : Int → Bool) (G : Int → Int) (k o : Int) : Int → Int := gwM (sh o F) F C G k (zfor (f_top (sh o F) (sh k F) (sh k G)) 192 0 (-1)) 0
theorem wG_rng {F C : Int → Bool} {G : Int → Int} {k o : Int} (rG : RGh G) : RGh (wG F C G k o) := by
  intro j h1 h2
  unfold wG gwM
  split
  · exact wst_rng (rG j h1 h2)
  · exact rG j h1 h2
section XMILL
variable {b c : Nat} {v w : Nat → Int} {F C D : Int → Bool} {G : Int → Int} {R : Nat → Int → Int} {M : zM}
theorem x_wear {k o : Int} (x : XS b F C G M) (rG : RGh G) (hk : 0 ≤ k ∧ k ≤ 3 ∧ 0 ≤ o ∧ o ≤ 3 ∧ k ≠ o) : ∃ M', (∀ (d : Nat) (K : zK), zC (d + 7) 79 [.ref (zst b k), .ref (zst b o)] M K = K (some (.int (zi (wT F C G k o)))) M') ∧ XS b F C (wG F C G k o) M' ∧ zFr (b + 22) 24 M M' := by
  have hn := zst_ne (b := b) (j := k) (k := o) ⟨hk.1, by omega, hk.2.2.2.2⟩
  obtain ⟨q1, q2, q3, q4, -⟩ := x k (by omega) (by omega)
  obtain ⟨p1, p2, -⟩ := x o (by omega) (by omega)
  have rg := RGh_sh rG (k := k) (by omega)
  have hw := s_wearAgainst (by omega) q1 q2 q3 q4 p1 p2 rg
  rw [f_wA_two rg] at hw
  refine ⟨_, hw, XS_upG x (by omega) (fun j h1 h2 => ?_) (fun s h1 h2 h3 => ?_), zFr_set (by unfold zst; omega)⟩
  · rw [gwA_two rg h1 h2]
    unfold gwA wG gwM
    rw [show 192 * k + j - 192 * k = j by omega]
    by_cases c : grd (sh o F) (j / 24) = true
    · rw [if_pos ⟨by omega, h2, c⟩, if_pos ⟨by omega, by omega, c⟩]
      rfl
    · rw [if_neg (fun q => c q.2.2), if_neg (fun q => c q.2.2)]
      rfl
  · unfold wG gwM
    rw [if_neg (fun q => by omega)]
def wD (F C : Int → Bool) (v : Nat → Int) (G : Int → Int) : Int := wT F C G (v 4) (v 5) + wT F C (wG F C G (v 4) (v 5)) (v 5) (v 4)
def wE (F C : Int → Bool) (v : Nat → Int) (G : Int → Int) : Int → Int := wG F C (wG F C G (v 4) (v 5)) (v 5) (v 4)
theorem x_wearDown (o : XO b v M) (x : XS b F C G M) (rv : RV v) (rG : RGh G) : ∃ M', (∀ (d : Nat) (K : zK), zC (d + 8) 10 [.ref (b + 46)] M K = K (some (.int (zi (wD F C v G)))) M') ∧ XS b F C (wE F C v G) M' ∧ zFr (b + 22) 24 M M' := by
  obtain ⟨r, -⟩ := rv
  obtain ⟨M1, c1, x1, f1⟩ := x_wear (k := v 4) (o := v 5) x rG (by omega)
  obtain ⟨M2, c2, x2, f2⟩ := x_wear (k := v 5) (o := v 4) x1 (wG_rng rG) (by omega)
  refine ⟨M2, fun d K => ?_, x2, zFr_trans f1 f2⟩
  have o1 := XO_fr o f1 (by omega)
  have h0 := o.2.2
  have h1 := o1.2.2
  have s4 := (x (v 4) (by omega) (by omega)).1
  have s5 := (x1 (v 5) (by omega) (by omega)).1
  simp (disch := omega) only [zen_10, e_10_0, e_10_1, e_10_4, e_10_5, e_10_8, e_10_11, e_10_12, e_10_15, e_10_16, e_10_19, e_10_22, e_10_23, zgf_0_0, zgf_0_1, zPa_some, zPn_some, zRK_some, zRK_none, zCk_t, zis_ob, zget_set_eq, zget_set_ne, zAld_10, zAld_11, zAst_10, zAst_11, zAlen_10, zAlen_11, zbd_t, zbd_f, zb_t, zb_f, zset_set, s_one0, s_one1, zis_so, h0, h1, c1, c2, s4, s5]
  rfl
def wN (F C : Int → Bool) (v : Nat → Int) : Nat → Int × (Int → Int) → Int × (Int → Int)
  | 0, p => p
  | n + 1, p => wN F C v n (p.1 + wD F C v p.2, wE F C v p.2)
theorem l_113 (rv : RV v) (m : Int) (hm : 1 ≤ m ∧ m ≤ 60) : ∀ (n : Nat) (i acc : Int) (G : Int → Int) (M : zM), i + n = m → 0 ≤ i → XO b v M → XS b F C G M → RGh G → ∃ M', (∀ (d : Nat) (K : zK), Ev (d + 8) 113 19 [some (.ref b), some (.int (zi m)), some (.int (zi acc)), some (.int (zi i))] [.int (zi m), .int (zi i)] M K = Ev (d + 8) 113 38 [some (.ref b), some (.int (zi m)), some (.int (zi ((wN F C v n (acc, G)).1))), some (.int (zi m))] [] M' K) ∧ XS b F C (wN F C v n (acc, G)).2 M' ∧ zFr (b + 22) 24 M M' ∧ RGh (wN F C v n (acc, G)).2 := by
  intro n
  induction n with
  | zero =>
    intro i acc G M hi h0 o x rG
    refine ⟨M, fun d K => ?_, x, zFr_refl, rG⟩
    obtain rfl : i = m := by omega
    simp (disch := omega) only [zen_113, e_113_0, e_113_1, e_113_2, e_113_4, e_113_7t, e_113_7f, e_113_10, e_113_12, e_113_13, e_113_14, e_113_15, e_113_16, e_113_17, e_113_18, e_113_19t, e_113_19f, e_113_22, e_113_23, e_113_24, e_113_27, e_113_30, e_113_31, e_113_32, e_113_35, e_113_39, e_113_40, e_113_43, e_113_44, e_113_45, e_113_48, e_113_49, zgf_8_1, zgf_8_12, zpf_8_12, zPa_some, zPn_some, zRK_some, zRK_none, zCk_t, zis_ob, zget_set_eq, zget_set_ne, zAld_10, zAld_11, zAst_10, zAst_11, zAlen_10, zAlen_11, zbd_t, zbd_f, zb_t, zb_f, zset_set, s_one0, s_one1, zis_so]
    rfl
  | succ n ih =>
    intro i acc G M hi h0 o x rG
    obtain ⟨M1, c1, x1, f1⟩ := x_wearDown o x rv rG
    obtain ⟨M2, c2, x2, f2, g2⟩ := ih (i + 1) (acc + wD F C v G) _ M1 (by omega) (by omega) (XO_fr o f1 (by omega)) x1 (wG_rng (wG_rng rG))
    refine ⟨M2, fun d K => ?_, x2, zFr_trans f1 f2, g2⟩
    have h0 := o.1
    have h46 := o.2.2
    simp (disch := omega) only [zen_113, e_113_0, e_113_1, e_113_2, e_113_4, e_113_7t, e_113_7f, e_113_10, e_113_12, e_113_13, e_113_14, e_113_15, e_113_16, e_113_17, e_113_18, e_113_19t, e_113_19f, e_113_22, e_113_23, e_113_24, e_113_27, e_113_30, e_113_31, e_113_32, e_113_35, e_113_39, e_113_40, e_113_43, e_113_44, e_113_45, e_113_48, e_113_49, zgf_8_1, zgf_8_12, zpf_8_12, zPa_some, zPn_some, zRK_some, zRK_none, zCk_t, zis_ob, zget_set_eq, zget_set_ne, zAld_10, zAld_11, zAst_10, zAst_11, zAlen_10, zAlen_11, zbd_t, zbd_f, zb_t, zb_f, zset_set, s_one0, s_one1, zis_so, h0, h46, c1]
    exact c2 d K
def zwr (x : Int) : Int := (zi x).toInt
theorem zwr_rng (x : Int) : -2147483648 ≤ zwr x ∧ zwr x < 2147483648 := ⟨Int32.le_toInt _, Int32.toInt_lt _⟩
theorem zwr_zi (x : Int) : zi (zwr x) = zi x := by
  unfold zwr zi
  exact Int32.ofInt_toInt _
theorem zAg_up {w v : Nat → Int} {k : Nat} {x : Int} (h : zAg w v) : zAg (zuN w k x) (zuN v k x) := by
  intro j hj
  unfold zuN
  by_cases c17 : j = k
  · rw [if_pos c17, if_pos c17]
  · rw [if_neg c17, if_neg c17]; exact h j hj
theorem zset_mo_17 {c : Nat} {w : Nat → Int} {x y : Int} {M : zM} (h : zi x = zi y) : zget (zset M c (zMo c (zuN w 17 x))) c = some (zMo c (zuN w 17 y)) := by
  rw [zget_set_eq]
  unfold zMo
  rw [zuN_eq, zuN_eq, h]
  rfl
def oMill (F C : Int → Bool) (v : Nat → Int) (G : Int → Int) (n : Int) : Int × (Nat → Int) × (Int → Int) := if 1 ≤ n ∧ n ≤ 60 then ((wN F C v n.toNat (0, G)).1, zuN v 17 (zwr (v 17 + n)), (wN F C v n.toNat (0, G)).2) else (-102, v, G)
theorem x_mill (x : XI b v F C G R D M) (ri : RI v G R D) (n : Int) (hn : -2147483648 ≤ n ∧ n < 2147483648) : ∃ M', (∀ (d : Nat) (K : zK), zC (d + 9) 113 [.ref b, .int (zi n)] M K = K (some (.int (zi (oMill F C v G n).1))) M') ∧ XI b (oMill F C v G n).2.1 F C (oMill F C v G n).2.2 R D M' ∧ zFr b 47 M M' ∧ RI (oMill F C v G n).2.1 (oMill F C v G n).2.2 R D := by
  unfold oMill
  by_cases c : 1 ≤ n ∧ n ≤ 60
  · rw [if_pos c]
    obtain ⟨x1, x2, x3, x4, x5, x6, x7, x8⟩ := x
    obtain ⟨M1, c1, y2, f1, g1⟩ := l_113 (b := b) (F := F) (C := C) ri.1 n c n.toNat 0 0 G M (by omega) (by omega) x1 x2 ri.2.1
    have f2 := zFr_set (lo := b) (n := 1) (a := b) (M := M1) (x := zOb 8 [.ref (b + 1), .ref (b + 46), .ref (b + 2), .ref (b + 3), .ref (b + 4), .ref (b + 9), .ref (b + 12), .ref (b + 17), .int (zi (v 4)), .int (zi (v 5)), .int (zi (v 16)), .int (zi (v 32)), .int (zi (v 17 + n))]) (by omega)
    have o1 := XO_fr x1 f1 (by omega)
    refine ⟨_, fun d K => ?_, ⟨⟨?_, zFr_get f2 o1.2.1 (by omega), zFr_get f2 o1.2.2 (by omega)⟩, XS_fr y2 f2 (by omega), XH_fr (XH_fr x3 f1 (by omega)) f2 (by omega), XG_fr (XG_fr x4 f1 (by omega)) f2 (by omega), XT_fr (XT_fr x5 f1 (by omega)) f2 (by omega), XR_fr (XR_fr x6 f1 (by omega)) f2 (by omega), XM_fr (XM_fr x7 f1 (by omega)) f2 (by omega), XP_fr (XP_fr x8 f1 (by omega)) f2 (by omega)⟩, zFr_trans (zFr_mono f1 (by omega)) (zFr_mono f2 (by omega)), ?_⟩
    · have h0 := o1.1
      simp (disch := omega) only [zen_113, e_113_0, e_113_1, e_113_2, e_113_4, e_113_7t, e_113_7f, e_113_10, e_113_12, e_113_13, e_113_14, e_113_15, e_113_16, e_113_17, e_113_18, e_113_22, e_113_23, e_113_24, e_113_27, e_113_30, e_113_31, e_113_32, e_113_35, e_113_39, e_113_40, e_113_43, e_113_44, e_113_45, e_113_48, e_113_49, zgf_8_1, zgf_8_12, zpf_8_12, zPa_some, zPn_some, zRK_some, zRK_none, zCk_t, zis_ob, zget_set_eq, zget_set_ne, zAld_10, zAld_11, zAst_10, zAst_11, zAlen_10, zAlen_11, zbd_t, zbd_f, zb_t, zb_f, zset_set, s_one0, s_one1, zis_so, s_isWithin]
      rw [c1]
      simp (disch := omega) only [zen_113, e_113_0, e_113_1, e_113_2, e_113_4, e_113_7t, e_113_7f, e_113_10, e_113_12, e_113_13, e_113_14, e_113_15, e_113_16, e_113_17, e_113_18, e_113_19t, e_113_19f, e_113_22, e_113_23, e_113_24, e_113_27, e_113_30, e_113_31, e_113_32, e_113_35, e_113_38, e_113_39, e_113_40, e_113_43, e_113_44, e_113_45, e_113_48, e_113_49, zgf_8_1, zgf_8_12, zpf_8_12, zPa_some, zPn_some, zRK_some, zRK_none, zCk_t, zis_ob, zget_set_eq, zget_set_ne, zAld_10, zAld_11, zAst_10, zAst_11, zAlen_10, zAlen_11, zbd_t, zbd_f, zb_t, zb_f, zset_set, s_one0, s_one1, zis_so, h0]
    · dsimp only
      rw [zget_set_eq, zuN_eq, zwr_zi]
      rfl
    · obtain ⟨⟨r1, r2, r3, r4⟩, r⟩ := ri
      have := zwr_rng (v 17 + n)
      exact ⟨⟨r1, r2, ⟨r3.1, r3.2.1, this.1, this.2, r3.2.2.2.2⟩, r4⟩, g1, r.2⟩
  · rw [if_neg c]
    refine ⟨M, fun d K => ?_, x, zFr_refl, ri⟩
    simp (disch := omega) only [zen_113, e_113_0, e_113_1, e_113_2, e_113_4, e_113_7t, e_113_7f, e_113_10, e_113_12, e_113_13, e_113_14, e_113_15, e_113_16, e_113_17, e_113_18, e_113_19t, e_113_19f, e_113_22, e_113_23, e_113_24, e_113_27, e_113_30, e_113_31, e_113_32, e_113_35, e_113_38, e_113_39, e_113_40, e_113_43, e_113_44, e_113_45, e_113_48, e_113_49, zgf_8_1, zgf_8_12, zpf_8_12, zPa_some, zPn_some, zRK_some, zRK_none, zCk_t, zis_ob, zget_set_eq, zget_set_ne, zAld_10, zAld_11, zAst_10, zAst_11, zAlen_10, zAlen_11, zbd_t, zbd_f, zb_t, zb_f, zset_set, s_one0, s_one1, zis_so, s_isWithin]
theorem lm_185 (ri : RV v) (ag : zAg w v) (m : Int) (hm : 1 ≤ m ∧ m ≤ 60) : ∀ (n : Nat) (i acc : Int) (G : Int → Int) (M : zM), i + n = m → 0 ≤ i → zget M c = some (zMo c w) → zget M (c + 1) = some (zAb 768 F) → zget M (c + 3) = some (zAb 768 C) → zget M (c + 2) = some (zA 10 768 G) → RGh G → ∀ (d : Nat) (K : zK), Ev (d + 5) 185 21 [some (.ref c), some (.int (zi m)), some (.int (zi acc)), some (.int (zi i))] [.int (zi m), .int (zi i)] M K = K (some (.int (zi (wN F C v n (acc, G)).1))) (zset (zset M (c + 2) (zA 10 768 (wN F C v n (acc, G)).2)) c (zMo c (zuN w 17 (w 17 + m)))) := by
  intro n
  induction n with
  | zero =>
    intro i acc G M hi h0 hM hF hC hG rG d K
    rw [show zset M (c + 2) (zA 10 768 (wN F C v 0 (acc, G)).2) = M from zset_same hG]
    simp (disch := omega) only [zgm_0, zgm_1, zgm_2, zgm_3, zgm_4, zgm_5, zgm_6, zgm_7, zgm_8, zgm_9, zgm_10, zgm_11, zgm_12, zgm_13, zgm_14, zgm_15, zgm_16, zgm_17, zgm_18, zgm_19, zgm_20, zgm_21, zgm_22, zgm_23, zgm_24, zgm_25, zgm_26, zgm_27, zgm_28, zgm_29, zgm_30, zgm_31, zgm_32, zgm_33, zgm_34, zgm_35, zgm_36, zgm_37, zpm_4, zpm_5, zpm_6, zpm_7, zpm_8, zpm_9, zpm_10, zpm_11, zpm_12, zpm_13, zpm_14, zpm_15, zpm_16, zpm_17, zpm_18, zpm_22, zpm_23, zpm_31, zpm_32, zpm_36, zis_mo, zuN_eq, zuN_ne, zen_185, e_185_0, e_185_1, e_185_2, e_185_3, e_185_6, e_185_9t, e_185_9f, e_185_12, e_185_14, e_185_15, e_185_16, e_185_17, e_185_18, e_185_19, e_185_20, e_185_21t, e_185_21f, e_185_24, e_185_25, e_185_26, e_185_27, e_185_30, e_185_31, e_185_34, e_185_37, e_185_38, e_185_39, e_185_42, e_185_43, e_185_46, e_185_49, e_185_50, e_185_51, e_185_52, e_185_55, e_185_58, e_185_59, e_185_60, e_185_63, e_185_64, e_185_65, e_185_68, e_185_69, zPa_some, zPn_some, zRK_some, zRK_none, zCk_t, zis_ob, zget_set_eq, zget_set_ne, zAld_10, zAld_11, zAst_10, zAst_11, zAlen_10, zAlen_11, zbd_t, zbd_f, zb_t, zb_f, zset_set, s_one0, s_one1, zis_so, hM]
    rfl
  | succ n ih =>
    intro i acc G M hi h0 hM hF hC hG rG d K
    have r4 : 0 ≤ v 4 ∧ v 4 ≤ 3 ∧ 0 ≤ v 5 ∧ v 5 ≤ 3 := by have := ri.1; omega
    have a4 := ag 4 (by omega)
    have a5 := ag 5 (by omega)
    have e1 := s_wearM hM hF hC hG rG
    have e2 := s_wearM (c := c) (v := w) (F := F) (C := C) (G := wG F C G (v 4) (v 5)) (M := zset M (c + 2) (zA 10 768 (wG F C G (v 4) (v 5)))) ((zget_set_ne (by omega)).trans hM) ((zget_set_ne (by omega)).trans hF) ((zget_set_ne (by omega)).trans hC) zget_set_eq (wG_rng rG)
    have e1' : ∀ (d : Nat) (K : zK), zC (d + 4) 184 [.ref c, .int (zi (v 4)), .int (zi (v 5))] M K = K (some (.int (zi (wT F C G (v 4) (v 5))))) (zset M (c + 2) (zA 10 768 (wG F C G (v 4) (v 5)))) := fun d K => e1 d _ _ K r4
    have e2' : ∀ (d : Nat) (K : zK), zC (d + 4) 184 [.ref c, .int (zi (v 5)), .int (zi (v 4))] (zset M (c + 2) (zA 10 768 (wG F C G (v 4) (v 5)))) K = K (some (.int (zi (wT F C (wG F C G (v 4) (v 5)) (v 5) (v 4))))) (zset M (c + 2) (zA 10 768 (wE F C v G))) := fun d K => by
      have := e2 d (v 5) (v 4) K (by omega)
      rw [zset_set] at this
      exact this
    simp (disch := omega) only [zgm_0, zgm_1, zgm_2, zgm_3, zgm_4, zgm_5, zgm_6, zgm_7, zgm_8, zgm_9, zgm_10, zgm_11, zgm_12, zgm_13, zgm_14, zgm_15, zgm_16, zgm_17, zgm_18, zgm_19, zgm_20, zgm_21, zgm_22, zgm_23, zgm_24, zgm_25, zgm_26, zgm_27, zgm_28, zgm_29, zgm_30, zgm_31, zgm_32, zgm_33, zgm_34, zgm_35, zgm_36, zgm_37, zpm_4, zpm_5, zpm_6, zpm_7, zpm_8, zpm_9, zpm_10, zpm_11, zpm_12, zpm_13, zpm_14, zpm_15, zpm_16, zpm_17, zpm_18, zpm_22, zpm_23, zpm_31, zpm_32, zpm_36, zis_mo, zuN_eq, zuN_ne, zen_185, e_185_0, e_185_1, e_185_2, e_185_3, e_185_6, e_185_9t, e_185_9f, e_185_12, e_185_14, e_185_15, e_185_16, e_185_17, e_185_18, e_185_19, e_185_20, e_185_21t, e_185_21f, e_185_24, e_185_25, e_185_26, e_185_27, e_185_30, e_185_31, e_185_34, e_185_37, e_185_38, e_185_39, e_185_42, e_185_43, e_185_46, e_185_49, e_185_50, e_185_51, e_185_52, e_185_55, e_185_58, e_185_59, e_185_60, e_185_63, e_185_64, e_185_65, e_185_68, e_185_69, zPa_some, zPn_some, zRK_some, zRK_none, zCk_t, zis_ob, zget_set_eq, zget_set_ne, zAld_10, zAld_11, zAst_10, zAst_11, zAlen_10, zAlen_11, zbd_t, zbd_f, zb_t, zb_f, zset_set, s_one0, s_one1, zis_so, hM, a4, a5, e1', e2']
    have := ih (i + 1) (acc + wD F C v G) (wE F C v G) (zset M (c + 2) (zA 10 768 (wE F C v G))) (by omega) (by omega) ((zget_set_ne (by omega)).trans hM) ((zget_set_ne (by omega)).trans hF) ((zget_set_ne (by omega)).trans hC) zget_set_eq (wG_rng (wG_rng rG)) d K
    rw [zset_set] at this
    exact this
theorem m_mill (x : MI c v F C G R D M) (ri : RI v G R D) (n : Int) (hn : -2147483648 ≤ n ∧ n < 2147483648) : ∃ M', (∀ (d : Nat) (K : zK), zC (d + 9) 185 [.ref c, .int (zi n)] M K = K (some (.int (zi (oMill F C v G n).1))) M') ∧ MI c (oMill F C v G n).2.1 F C (oMill F C v G n).2.2 R D M' ∧ zFr c 19 M M' := by
  unfold oMill
  by_cases q : 1 ≤ n ∧ n ≤ 60
  · rw [if_pos q]
    obtain ⟨w, ha, h0, h1, h2, h3, h4⟩ := x
    have e := lm_185 (c := c) (F := F) (C := C) ri.1 ha n q n.toNat 0 0 G M (by omega) (by omega) h0 h1 h3 h2 ri.2.1
    refine ⟨zset (zset M (c + 2) (zA 10 768 (wN F C v n.toNat (0, G)).2)) c (zMo c (zuN w 17 (w 17 + n))), fun d K => ?_, ?_, zFr_trans (zFr_set (lo := c) (n := 19) (a := c + 2) (by omega)) (zFr_set (by omega))⟩
    rotate_left
    · obtain ⟨⟨A4, h4⟩, h5, h6, h7, h8, h9, h10, h11, h12, h13, h14, ⟨A15, h15⟩, ⟨A16, h16⟩, ⟨A17, h17⟩, A18, h18⟩ := h4
      exact ⟨zuN w 17 (zwr (v 17 + n)), zAg_up ha, zset_mo_17 (by rw [zwr_zi, ha 17 (by omega)]), (zget_set_ne (by omega)).trans ((zget_set_ne (by omega)).trans h1), (zget_set_ne (by omega)).trans zget_set_eq, (zget_set_ne (by omega)).trans ((zget_set_ne (by omega)).trans h3), ⟨A4, (zget_set_ne (by omega)).trans ((zget_set_ne (by omega)).trans h4)⟩, (zget_set_ne (by omega)).trans ((zget_set_ne (by omega)).trans h5), (zget_set_ne (by omega)).trans ((zget_set_ne (by omega)).trans h6), (zget_set_ne (by omega)).trans ((zget_set_ne (by omega)).trans h7), (zget_set_ne (by omega)).trans ((zget_set_ne (by omega)).trans h8), (zget_set_ne (by omega)).trans ((zget_set_ne (by omega)).trans h9), (zget_set_ne (by omega)).trans ((zget_set_ne (by omega)).trans h10), (zget_set_ne (by omega)).trans ((zget_set_ne (by omega)).trans h11), (zget_set_ne (by omega)).trans ((zget_set_ne (by omega)).trans h12), (zget_set_ne (by omega)).trans ((zget_set_ne (by omega)).trans h13), (zget_set_ne (by omega)).trans ((zget_set_ne (by omega)).trans h14), ⟨A15, (zget_set_ne (by omega)).trans ((zget_set_ne (by omega)).trans h15)⟩, ⟨A16, (zget_set_ne (by omega)).trans ((zget_set_ne (by omega)).trans h16)⟩, ⟨A17, (zget_set_ne (by omega)).trans ((zget_set_ne (by omega)).trans h17)⟩, A18, (zget_set_ne (by omega)).trans ((zget_set_ne (by omega)).trans h18)⟩
    · simp (disch := omega) only [zgm_0, zgm_1, zgm_2, zgm_3, zgm_4, zgm_5, zgm_6, zgm_7, zgm_8, zgm_9, zgm_10, zgm_11, zgm_12, zgm_13, zgm_14, zgm_15, zgm_16, zgm_17, zgm_18, zgm_19, zgm_20, zgm_21, zgm_22, zgm_23, zgm_24, zgm_25, zgm_26, zgm_27, zgm_28, zgm_29, zgm_30, zgm_31, zgm_32, zgm_33, zgm_34, zgm_35, zgm_36, zgm_37, zpm_4, zpm_5, zpm_6, zpm_7, zpm_8, zpm_9, zpm_10, zpm_11, zpm_12, zpm_13, zpm_14, zpm_15, zpm_16, zpm_17, zpm_18, zpm_22, zpm_23, zpm_31, zpm_32, zpm_36, zis_mo, zuN_eq, zuN_ne, zen_185, e_185_0, e_185_1, e_185_2, e_185_3, e_185_6, e_185_9t, e_185_9f, e_185_12, e_185_14, e_185_15, e_185_16, e_185_17, e_185_18, e_185_19, e_185_20, e_185_24, e_185_25, e_185_26, e_185_27, e_185_30, e_185_31, e_185_34, e_185_37, e_185_38, e_185_39, e_185_42, e_185_43, e_185_46, e_185_49, e_185_50, e_185_51, e_185_52, e_185_55, e_185_58, e_185_59, e_185_60, e_185_63, e_185_64, e_185_65, e_185_68, e_185_69, zPa_some, zPn_some, zRK_some, zRK_none, zCk_t, zis_ob, zget_set_eq, zget_set_ne, zAld_10, zAld_11, zAst_10, zAst_11, zAlen_10, zAlen_11, zbd_t, zbd_f, zb_t, zb_f, zset_set, s_one0, s_one1, zis_so, s_in]
      exact e (d + 3) K
  · rw [if_neg q]
    refine ⟨M, fun d K => ?_, x, zFr_refl⟩
    simp (disch := omega) only [zgm_0, zgm_1, zgm_2, zgm_3, zgm_4, zgm_5, zgm_6, zgm_7, zgm_8, zgm_9, zgm_10, zgm_11, zgm_12, zgm_13, zgm_14, zgm_15, zgm_16, zgm_17, zgm_18, zgm_19, zgm_20, zgm_21, zgm_22, zgm_23, zgm_24, zgm_25, zgm_26, zgm_27, zgm_28, zgm_29, zgm_30, zgm_31, zgm_32, zgm_33, zgm_34, zgm_35, zgm_36, zgm_37, zpm_4, zpm_5, zpm_6, zpm_7, zpm_8, zpm_9, zpm_10, zpm_11, zpm_12, zpm_13, zpm_14, zpm_15, zpm_16, zpm_17, zpm_18, zpm_22, zpm_23, zpm_31, zpm_32, zpm_36, zis_mo, zuN_eq, zuN_ne, zen_185, e_185_0, e_185_1, e_185_2, e_185_3, e_185_6, e_185_9t, e_185_9f, e_185_12, e_185_14, e_185_15, e_185_16, e_185_17, e_185_18, e_185_19, e_185_20, e_185_21t, e_185_21f, e_185_24, e_185_25, e_185_26, e_185_27, e_185_30, e_185_31, e_185_34, e_185_37, e_185_38, e_185_39, e_185_42, e_185_43, e_185_46, e_185_49, e_185_50, e_185_51, e_185_52, e_185_55, e_185_58, e_185_59, e_185_60, e_185_63, e_185_64, e_185_65, e_185_68, e_185_69, zPa_some, zPn_some, zRK_some, zRK_none, zCk_t, zis_ob, zget_set_eq, zget_set_ne, zAld_10, zAld_11, zAst_10, zAst_11, zAlen_10, zAlen_11, zbd_t, zbd_f, zb_t, zb_f, zset_set, s_one0, s_one1, zis_so, s_in]
end XMILL
