/-! how the furrows cross -/
section CHK
theorem s_isStoneX {d : Nat} {k : Int} {M : zM} {K : zK} (h : -2147483648 ≤ k ∧ k < 2147483648) : zC (d + 2) 136 [.int (zi k)] M K = K (some (.int (zi (zb (decide (0 ≤ k ∧ k ≤ 3)))))) M := by
  have hb := zb_rng (decide (0 ≤ k ∧ k ≤ 3))
  simp (disch := omega) only [zen_136, e_136_0, e_136_1, e_136_2, e_136_3, e_136_6, zPa_some, zPn_some, zRK_some, zRK_none, zCk_t, zis_ob, zget_set_eq, zget_set_ne, zAld_10, zAld_11, zAst_10, zAst_11, zAlen_10, zAlen_11, zbd_t, zbd_f, zb_t, zb_f, zset_set, s_one0, s_one1, zis_so, s_isWithin]
theorem s_isSectorX {d : Nat} {k : Int} {M : zM} {K : zK} (h : -2147483648 ≤ k ∧ k < 2147483648) : zC (d + 2) 138 [.int (zi k)] M K = K (some (.int (zi (zb (decide (0 ≤ k ∧ k ≤ 23)))))) M := by
  have hb := zb_rng (decide (0 ≤ k ∧ k ≤ 23))
  simp (disch := omega) only [zen_138, e_138_0, e_138_1, e_138_2, e_138_4, e_138_7, zPa_some, zPn_some, zRK_some, zRK_none, zCk_t, zis_ob, zget_set_eq, zget_set_ne, zAld_10, zAld_11, zAst_10, zAst_11, zAlen_10, zAlen_11, zbd_t, zbd_f, zb_t, zb_f, zset_set, s_one0, s_one1, zis_so, s_isWithin]
theorem s_isMillX {d : Nat} {k : Int} {M : zM} {K : zK} (h : -2147483648 ≤ k ∧ k < 2147483648) : zC (d + 2) 140 [.int (zi k)] M K = K (some (.int (zi (zb (decide (0 ≤ k ∧ k ≤ 5)))))) M := by
  have hb := zb_rng (decide (0 ≤ k ∧ k ≤ 5))
  simp (disch := omega) only [zen_140, e_140_0, e_140_1, e_140_2, e_140_3, e_140_6, zPa_some, zPn_some, zRK_some, zRK_none, zCk_t, zis_ob, zget_set_eq, zget_set_ne, zAld_10, zAld_11, zAst_10, zAst_11, zAlen_10, zAlen_11, zbd_t, zbd_f, zb_t, zb_f, zset_set, s_one0, s_one1, zis_so, s_isWithin]
theorem s_isSpotX {d : Nat} {r a : Int} {M : zM} {K : zK} (h : -2147483648 ≤ r ∧ r < 2147483648 ∧ -2147483648 ≤ a ∧ a < 2147483648) : zC (d + 3) 139 [.int (zi r), .int (zi a)] M K = K (some (.int (zi (zb (decide ((0 ≤ r ∧ r ≤ 7) ∧ (0 ≤ a ∧ a ≤ 23))))))) M := by
  by_cases c2 : 0 ≤ r ∧ r ≤ 7
  · by_cases c3 : 0 ≤ a ∧ a ≤ 23
    · simp (disch := omega) only [zen_139, e_139_0, e_139_1, e_139_4t, e_139_4f, e_139_7, e_139_8, e_139_11t, e_139_11f, e_139_14, e_139_15, e_139_18, e_139_19, zPa_some, zPn_some, zRK_some, zRK_none, zCk_t, zis_ob, zget_set_eq, zget_set_ne, zAld_10, zAld_11, zAst_10, zAst_11, zAlen_10, zAlen_11, zbd_t, zbd_f, zb_t, zb_f, zset_set, s_one0, s_one1, zis_so, s_isRing, s_isSectorX]
    · simp (disch := omega) only [zen_139, e_139_0, e_139_1, e_139_4t, e_139_4f, e_139_7, e_139_8, e_139_11t, e_139_11f, e_139_14, e_139_15, e_139_18, e_139_19, zPa_some, zPn_some, zRK_some, zRK_none, zCk_t, zis_ob, zget_set_eq, zget_set_ne, zAld_10, zAld_11, zAst_10, zAst_11, zAlen_10, zAlen_11, zbd_t, zbd_f, zb_t, zb_f, zset_set, s_one0, s_one1, zis_so, s_isRing, s_isSectorX]
  · simp (disch := omega) only [zen_139, e_139_0, e_139_1, e_139_4t, e_139_4f, e_139_7, e_139_8, e_139_11t, e_139_11f, e_139_14, e_139_15, e_139_18, e_139_19, zPa_some, zPn_some, zRK_some, zRK_none, zCk_t, zis_ob, zget_set_eq, zget_set_ne, zAld_10, zAld_11, zAst_10, zAst_11, zAlen_10, zAlen_11, zbd_t, zbd_f, zb_t, zb_f, zset_set, s_one0, s_one1, zis_so, s_isRing, s_isSectorX]
end CHK
def cr (F1 F2 : Int → Bool) (t r a : Int) : Bool := F1 (r * 24 + a % 24) && F2 (r * 24 + (t - a) % 24)
def crr (F1 F2 : Int → Bool) (t r a : Int) : Bool := decide (0 ≤ r ∧ r ≤ 7) && cr F1 F2 t r a
def nr (F1 F2 : Int → Bool) (t r a : Int) : Bool := crr F1 F2 t r a || crr F1 F2 t r (a + 1) || crr F1 F2 t r (a - 1)
theorem cr_mod {F1 F2 : Int → Bool} {t t' r a a' : Int} (h1 : a % 24 = a' % 24) (h2 : t % 24 = t' % 24) : cr F1 F2 t r a = cr F1 F2 t' r a' := by
  unfold cr
  rw [h1, show (t - a) % 24 = (t' - a') % 24 by omega]
theorem crr_mod {F1 F2 : Int → Bool} {t t' r a a' : Int} (h1 : a % 24 = a' % 24) (h2 : t % 24 = t' % 24) : crr F1 F2 t r a = crr F1 F2 t' r a' := by
  unfold crr
  rw [cr_mod h1 h2]
/-- sums -/
theorem zfor_add {g : Int → Int} : ∀ (n : Nat) (i s : Int), zfor (fun a s => s + g a) n i s = s + zfor (fun a s => s + g a) n i 0 := by
  intro n
  induction n with
  | zero => intro i s; rw [zfor_0, zfor_0]; omega
  | succ n ih =>
    intro i s
    rw [zfor_s, zfor_s, ih (i + 1) (s + g i), ih (i + 1) (0 + g i)]
    omega
theorem zfor_sub {g h : Int → Int} : ∀ (n : Nat) (i s t : Int), zfor (fun a s => s + (g a - h a)) n i (s - t) = zfor (fun a s => s + g a) n i s - zfor (fun a s => s + h a) n i t := by
  intro n
  induction n with
  | zero => intro i s t; rfl
  | succ n ih =>
    intro i s t
    rw [zfor_s, zfor_s, zfor_s, ← ih]
    congr 1
    omega
def zs1 (g : Int → Int) : Int := zfor (fun a s => s + g a) 24 0 0
def zs2 (g : Int → Int → Int) : Int := zfor (fun r s => s + zs1 (g r)) 8 0 0
theorem zs1_sub {g h : Int → Int} : zs1 (fun a => g a - h a) = zs1 g - zs1 h := zfor_sub 24 0 0 0
theorem zs2_sub {g h : Int → Int → Int} : zs2 (fun r a => g r a - h r a) = zs2 g - zs2 h := by
  unfold zs2
  rw [← zfor_sub, Int.sub_self]
  congr 1
  funext r s
  rw [zs1_sub]
theorem zs1_rng {g : Int → Int} (h : ∀ a, 0 ≤ a → a < 24 → 0 ≤ g a ∧ g a ≤ 1) : 0 ≤ zs1 g ∧ zs1 g ≤ 24 := by
  have : ∀ (n : Nat) (i s : Int), 0 ≤ i → i + n ≤ 24 → s ≤ zfor (fun a s => s + g a) n i s ∧ zfor (fun a s => s + g a) n i s ≤ s + n := by
    intro n
    induction n with
    | zero => intro i s _ _; rw [zfor_0]; omega
    | succ n ih =>
      intro i s h0 h1
      have := ih (i + 1) (s + g i) (by omega) (by omega)
      have := h i h0 (by omega)
      rw [zfor_s]
      omega
  have := this 24 0 0 (by omega) (by omega)
  unfold zs1
  omega
theorem zs2_rng {g : Int → Int → Int} (h : ∀ r a, 0 ≤ r → r < 8 → 0 ≤ a → a < 24 → 0 ≤ g r a ∧ g r a ≤ 1) : 0 ≤ zs2 g ∧ zs2 g ≤ 192 := by
  have : ∀ (n : Nat) (i s : Int), 0 ≤ i → i + n ≤ 8 → s ≤ zfor (fun r s => s + zs1 (g r)) n i s ∧ zfor (fun r s => s + zs1 (g r)) n i s ≤ s + 24 * n := by
    intro n
    induction n with
    | zero => intro i s _ _; rw [zfor_0]; omega
    | succ n ih =>
      intro i s h0 h1
      have := ih (i + 1) (s + zs1 (g i)) (by omega) (by omega)
      have := zs1_rng (g := g i) (fun a h2 h3 => h i a h0 (by omega) h2 h3)
      rw [zfor_s]
      omega
  have := this 8 0 0 (by omega) (by omega)
  unfold zs2
  omega
theorem zs1_congr {g h : Int → Int} (e : ∀ a, 0 ≤ a → a < 24 → g a = h a) : zs1 g = zs1 h := zfor_congr 24 0 0 (fun j t h1 h2 => by rw [e j h1 (by omega)])
theorem zs2_congr {g h : Int → Int → Int} (e : ∀ r a, 0 ≤ r → r < 8 → 0 ≤ a → a < 24 → g r a = h r a) : zs2 g = zs2 h := zfor_congr 8 0 0 (fun r t h1 h2 => by rw [zs1_congr (fun a h3 h4 => e r a h1 (by omega) h3 h4)])
def CP (p : Nat) (F1 F2 : Int → Bool) (M : zM) : Prop := ∃ (u o : Nat) (C1 C2 : Int → Bool) (G1 G2 : Int → Int), zget M p = some (zOb 0 [.ref u, .ref o]) ∧ XS1 u F1 C1 G1 M ∧ XS1 o F2 C2 G2 M
section COUPLE
variable {p : Nat} {F1 F2 : Int → Bool} {M : zM}
theorem s_below (x : CP p F1 F2 M) : ∀ (d : Nat) (r a : Int) (K : zK), (0 ≤ r ∧ r ≤ 7 ∧ -2147483648 ≤ a ∧ a < 2147483648) → zC (d + 5) 2 [.ref p, .int (zi r), .int (zi a)] M K = K (some (.int (zi (zb (F1 (r * 24 + a % 24)))))) M := by
  intro d r a K h
  obtain ⟨u, o, C1, C2, G1, G2, q, q1, q2⟩ := x
  have e1 := s_isFurrow q1.1 q1.2.1
  have h1 := q1.1
  have hb := zb_rng (F1 (r * 24 + a % 24))
  simp (disch := omega) only [zen_2, e_2_0, e_2_1, e_2_4, e_2_5, e_2_6, e_2_9, zgf_0_0, zPa_some, zPn_some, zRK_some, zRK_none, zCk_t, zis_ob, zget_set_eq, zget_set_ne, zAld_10, zAld_11, zAst_10, zAst_11, zAlen_10, zAlen_11, zbd_t, zbd_f, zb_t, zb_f, zset_set, s_one0, s_one1, zis_so, q, h1, e1]
theorem s_above (x : CP p F1 F2 M) : ∀ (d : Nat) (r a t : Int) (K : zK), (0 ≤ r ∧ r ≤ 7 ∧ -2147483648 ≤ t - a ∧ t - a < 2147483648) → zC (d + 5) 3 [.ref p, .int (zi r), .int (zi a), .int (zi t)] M K = K (some (.int (zi (zb (F2 (r * 24 + (t - a) % 24)))))) M := by
  intro d r a t K h
  obtain ⟨u, o, C1, C2, G1, G2, q, q1, q2⟩ := x
  have e2 := s_isFurrow q2.1 q2.2.1
  have h2 := q2.1
  have hb := zb_rng (F2 (r * 24 + (t - a) % 24))
  simp (disch := omega) only [zen_3, e_3_0, e_3_1, e_3_4, e_3_5, e_3_6, e_3_7, e_3_8, e_3_11, zgf_0_1, zPa_some, zPn_some, zRK_some, zRK_none, zCk_t, zis_ob, zget_set_eq, zget_set_ne, zAld_10, zAld_11, zAst_10, zAst_11, zAlen_10, zAlen_11, zbd_t, zbd_f, zb_t, zb_f, zset_set, s_one0, s_one1, zis_so, q, h2, e2]
theorem s_crosses (x : CP p F1 F2 M) : ∀ (d : Nat) (r a t : Int) (K : zK), (-2147483648 ≤ r ∧ r < 2147483648 ∧ -2147483648 ≤ a ∧ a < 2147483648 ∧ -2147483648 ≤ t - a ∧ t - a < 2147483648) → zC (d + 5) 4 [.ref p, .int (zi r), .int (zi a), .int (zi t)] M K = K (some (.int (zi (zb (crr F1 F2 t r a))))) M := by
  intro d r a t K h
  obtain ⟨u, o, C1, C2, G1, G2, q, q1, q2⟩ := x
  have e1 := s_isFurrow q1.1 q1.2.1
  have e2 := s_isFurrow q2.1 q2.2.1
  have e3 := s_isFurrowO q1.1
  have h1 := q1.1
  have h2 := q2.1
  unfold crr cr
  by_cases c : 0 ≤ r ∧ r ≤ 7
  · rw [decide_eq_true c, Bool.true_and]
    cases c1 : F1 (r * 24 + a % 24) with
    | false => simp (disch := omega) only [zen_4, e_4_0, e_4_1, e_4_4, e_4_5, e_4_6, e_4_9t, e_4_9f, e_4_12, e_4_13, e_4_16, e_4_17, e_4_18, e_4_19, e_4_20, e_4_23t, e_4_23f, e_4_26, e_4_27, e_4_30, e_4_31, zgf_0_0, zgf_0_1, zPa_some, zPn_some, zRK_some, zRK_none, zCk_t, zis_ob, zget_set_eq, zget_set_ne, zAld_10, zAld_11, zAst_10, zAst_11, zAlen_10, zAlen_11, zbd_t, zbd_f, zb_t, zb_f, zset_set, s_one0, s_one1, zis_so, q, h1, e1, c1, Bool.false_and]
    | true =>
      cases c2 : F2 (r * 24 + (t - a) % 24) with
      | false => simp (disch := omega) only [zen_4, e_4_0, e_4_1, e_4_4, e_4_5, e_4_6, e_4_9t, e_4_9f, e_4_12, e_4_13, e_4_16, e_4_17, e_4_18, e_4_19, e_4_20, e_4_23t, e_4_23f, e_4_26, e_4_27, e_4_30, e_4_31, zgf_0_0, zgf_0_1, zPa_some, zPn_some, zRK_some, zRK_none, zCk_t, zis_ob, zget_set_eq, zget_set_ne, zAld_10, zAld_11, zAst_10, zAst_11, zAlen_10, zAlen_11, zbd_t, zbd_f, zb_t, zb_f, zset_set, s_one0, s_one1, zis_so, q, h1, h2, e1, e2, c1, c2, Bool.true_and]
      | true => simp (disch := omega) only [zen_4, e_4_0, e_4_1, e_4_4, e_4_5, e_4_6, e_4_9t, e_4_9f, e_4_12, e_4_13, e_4_16, e_4_17, e_4_18, e_4_19, e_4_20, e_4_23t, e_4_23f, e_4_26, e_4_27, e_4_30, e_4_31, zgf_0_0, zgf_0_1, zPa_some, zPn_some, zRK_some, zRK_none, zCk_t, zis_ob, zget_set_eq, zget_set_ne, zAld_10, zAld_11, zAst_10, zAst_11, zAlen_10, zAlen_11, zbd_t, zbd_f, zb_t, zb_f, zset_set, s_one0, s_one1, zis_so, q, h1, h2, e1, e2, c1, c2, Bool.true_and]
  · rw [decide_eq_false c, Bool.false_and]
    simp (disch := omega) only [zen_4, e_4_0, e_4_1, e_4_4, e_4_5, e_4_6, e_4_9t, e_4_9f, e_4_12, e_4_13, e_4_16, e_4_17, e_4_18, e_4_19, e_4_20, e_4_23t, e_4_23f, e_4_26, e_4_27, e_4_30, e_4_31, zgf_0_0, zgf_0_1, zPa_some, zPn_some, zRK_some, zRK_none, zCk_t, zis_ob, zget_set_eq, zget_set_ne, zAld_10, zAld_11, zAst_10, zAst_11, zAlen_10, zAlen_11, zbd_t, zbd_f, zb_t, zb_f, zset_set, s_one0, s_one1, zis_so, q, h1, e3]
theorem s_crossesNear (x : CP p F1 F2 M) : ∀ (d : Nat) (r a t : Int) (K : zK), (-1000 ≤ r ∧ r < 1000 ∧ -1000 ≤ a ∧ a < 1000 ∧ -1000 ≤ t ∧ t < 1000) → zC (d + 6) 5 [.ref p, .int (zi r), .int (zi a), .int (zi t)] M K = K (some (.int (zi (zb (nr F1 F2 t r a))))) M := by
  intro d r a t K h
  have e := s_crosses x
  obtain ⟨u, o, C1, C2, G1, G2, q, q1, q2⟩ := x
  unfold nr
  cases c1 : crr F1 F2 t r a with
  | true => simp (disch := omega) only [zen_5, e_5_0, e_5_1, e_5_2, e_5_3, e_5_4, e_5_7t, e_5_7f, e_5_10, e_5_11, e_5_12, e_5_13, e_5_14, e_5_15, e_5_16, e_5_19t, e_5_19f, e_5_22, e_5_23, e_5_24, e_5_25, e_5_26, e_5_27, e_5_28, e_5_31t, e_5_31f, e_5_34, e_5_35, e_5_38, e_5_39, zPa_some, zPn_some, zRK_some, zRK_none, zCk_t, zis_ob, zget_set_eq, zget_set_ne, zAld_10, zAld_11, zAst_10, zAst_11, zAlen_10, zAlen_11, zbd_t, zbd_f, zb_t, zb_f, zset_set, s_one0, s_one1, zis_so, q, e, c1, Bool.true_or]
  | false =>
    cases c2 : crr F1 F2 t r (a + 1) with
    | true => simp (disch := omega) only [zen_5, e_5_0, e_5_1, e_5_2, e_5_3, e_5_4, e_5_7t, e_5_7f, e_5_10, e_5_11, e_5_12, e_5_13, e_5_14, e_5_15, e_5_16, e_5_19t, e_5_19f, e_5_22, e_5_23, e_5_24, e_5_25, e_5_26, e_5_27, e_5_28, e_5_31t, e_5_31f, e_5_34, e_5_35, e_5_38, e_5_39, zPa_some, zPn_some, zRK_some, zRK_none, zCk_t, zis_ob, zget_set_eq, zget_set_ne, zAld_10, zAld_11, zAst_10, zAst_11, zAlen_10, zAlen_11, zbd_t, zbd_f, zb_t, zb_f, zset_set, s_one0, s_one1, zis_so, q, e, c1, c2, Bool.true_or, Bool.false_or]
    | false =>
      cases c3 : crr F1 F2 t r (a - 1) with
      | true => simp (disch := omega) only [zen_5, e_5_0, e_5_1, e_5_2, e_5_3, e_5_4, e_5_7t, e_5_7f, e_5_10, e_5_11, e_5_12, e_5_13, e_5_14, e_5_15, e_5_16, e_5_19t, e_5_19f, e_5_22, e_5_23, e_5_24, e_5_25, e_5_26, e_5_27, e_5_28, e_5_31t, e_5_31f, e_5_34, e_5_35, e_5_38, e_5_39, zPa_some, zPn_some, zRK_some, zRK_none, zCk_t, zis_ob, zget_set_eq, zget_set_ne, zAld_10, zAld_11, zAst_10, zAst_11, zAlen_10, zAlen_11, zbd_t, zbd_f, zb_t, zb_f, zset_set, s_one0, s_one1, zis_so, q, e, c1, c2, c3, Bool.false_or]
      | false => simp (disch := omega) only [zen_5, e_5_0, e_5_1, e_5_2, e_5_3, e_5_4, e_5_7t, e_5_7f, e_5_10, e_5_11, e_5_12, e_5_13, e_5_14, e_5_15, e_5_16, e_5_19t, e_5_19f, e_5_22, e_5_23, e_5_24, e_5_25, e_5_26, e_5_27, e_5_28, e_5_31t, e_5_31f, e_5_34, e_5_35, e_5_38, e_5_39, zPa_some, zPn_some, zRK_some, zRK_none, zCk_t, zis_ob, zget_set_eq, zget_set_ne, zAld_10, zAld_11, zAst_10, zAst_11, zAlen_10, zAlen_11, zbd_t, zbd_f, zb_t, zb_f, zset_set, s_one0, s_one1, zis_so, q, e, c1, c2, c3, Bool.false_or]
theorem crr_in {t r a : Int} (h : 0 ≤ r ∧ r ≤ 7) : crr F1 F2 t r a = cr F1 F2 t r a := by
  unfold crr
  rw [decide_eq_true h, Bool.true_and]
theorem l_6a (x : CP p F1 F2 M) (t r : Int) (ht : 0 ≤ t ∧ t ≤ 23) (hr : 0 ≤ r ∧ r < 8) : ∀ (n : Nat) (a acc : Int), a + n = 24 → 0 ≤ a → ∀ (d : Nat) (K : zK), Ev (d + 5) 6 17 [some (.ref p), some (.int (zi t)), some (.int (zi acc)), some (.int (zi r)), some (.int (zi a))] [.int (zi 24), .int (zi a)] M K = Ev (d + 5) 6 40 [some (.ref p), some (.int (zi t)), some (.int (zi (zfor (fun a s => s + zb (cr F1 F2 t r a)) n a acc))), some (.int (zi r)), some (.int (zi 24))] [] M K := by
  intro n
  have e := s_crosses x
  obtain ⟨u, o, C1, C2, G1, G2, q, q1, q2⟩ := x
  induction n with
  | zero =>
    intro a acc ha h0 d K
    obtain rfl : a = 24 := by omega
    simp (disch := omega) only [zen_6, e_6_0, e_6_1, e_6_2, e_6_3, e_6_4, e_6_5, e_6_7t, e_6_7f, e_6_10, e_6_11, e_6_13, e_6_15, e_6_17t, e_6_17f, e_6_20, e_6_21, e_6_22, e_6_23, e_6_25, e_6_26, e_6_29, e_6_32, e_6_33, e_6_34, e_6_37, e_6_43, e_6_46, e_6_47, zPa_some, zPn_some, zRK_some, zRK_none, zCk_t, zis_ob, zget_set_eq, zget_set_ne, zAld_10, zAld_11, zAst_10, zAst_11, zAlen_10, zAlen_11, zbd_t, zbd_f, zb_t, zb_f, zset_set, s_one0, s_one1, zis_so, zfor_0]
  | succ n ih =>
    intro a acc ha h0 d K
    rw [zfor_s]
    simp (disch := omega) only [zen_6, e_6_0, e_6_1, e_6_2, e_6_3, e_6_4, e_6_5, e_6_7t, e_6_7f, e_6_10, e_6_11, e_6_13, e_6_15, e_6_17t, e_6_17f, e_6_20, e_6_21, e_6_22, e_6_23, e_6_25, e_6_26, e_6_29, e_6_32, e_6_33, e_6_34, e_6_37, e_6_43, e_6_46, e_6_47, zPa_some, zPn_some, zRK_some, zRK_none, zCk_t, zis_ob, zget_set_eq, zget_set_ne, zAld_10, zAld_11, zAst_10, zAst_11, zAlen_10, zAlen_11, zbd_t, zbd_f, zb_t, zb_f, zset_set, s_one0, s_one1, zis_so, q, e, s_oneIf, crr_in]
    exact ih _ _ (by omega) (by omega) d K
theorem l_6b (x : CP p F1 F2 M) (t : Int) (ht : 0 ≤ t ∧ t ≤ 23) : ∀ (n : Nat) (r acc : Int) (u4 : Option Value), r + n = 8 → 0 ≤ r → ∀ (d : Nat) (K : zK), Ev (d + 5) 6 7 [some (.ref p), some (.int (zi t)), some (.int (zi acc)), some (.int (zi r)), u4] [.int (zi 8), .int (zi r)] M K = K (some (.int (zi (zfor (fun r s => s + zs1 (fun a => zb (cr F1 F2 t r a))) n r acc)))) M := by
  intro n
  induction n with
  | zero =>
    intro r acc u4 ha h0 d K
    simp (disch := omega) only [zen_6, e_6_0, e_6_1, e_6_2, e_6_3, e_6_4, e_6_5, e_6_7t, e_6_7f, e_6_10, e_6_11, e_6_13, e_6_15, e_6_20, e_6_21, e_6_22, e_6_23, e_6_25, e_6_26, e_6_29, e_6_32, e_6_33, e_6_34, e_6_37, e_6_40, e_6_43, e_6_46, e_6_47, zPa_some, zPn_some, zRK_some, zRK_none, zCk_t, zis_ob, zget_set_eq, zget_set_ne, zAld_10, zAld_11, zAst_10, zAst_11, zAlen_10, zAlen_11, zbd_t, zbd_f, zb_t, zb_f, zset_set, s_one0, s_one1, zis_so, zfor_0]
  | succ n ih =>
    intro r acc u4 ha h0 d K
    have e := l_6a x t r ht (by omega) 24 0 acc (by omega) (by omega) d K
    rw [zfor_s]
    simp (disch := omega) only [zen_6, e_6_0, e_6_1, e_6_2, e_6_3, e_6_4, e_6_5, e_6_7t, e_6_7f, e_6_10, e_6_11, e_6_13, e_6_15, e_6_20, e_6_21, e_6_22, e_6_23, e_6_25, e_6_26, e_6_29, e_6_32, e_6_33, e_6_34, e_6_37, e_6_43, e_6_46, e_6_47, zPa_some, zPn_some, zRK_some, zRK_none, zCk_t, zis_ob, zget_set_eq, zget_set_ne, zAld_10, zAld_11, zAst_10, zAst_11, zAlen_10, zAlen_11, zbd_t, zbd_f, zb_t, zb_f, zset_set, s_one0, s_one1, zis_so]
    rw [e, zfor_add]
    simp (disch := omega) only [zen_6, e_6_0, e_6_1, e_6_2, e_6_3, e_6_4, e_6_5, e_6_7t, e_6_7f, e_6_10, e_6_11, e_6_13, e_6_15, e_6_20, e_6_21, e_6_22, e_6_23, e_6_25, e_6_26, e_6_29, e_6_32, e_6_33, e_6_34, e_6_37, e_6_40, e_6_43, e_6_46, e_6_47, zPa_some, zPn_some, zRK_some, zRK_none, zCk_t, zis_ob, zget_set_eq, zget_set_ne, zAld_10, zAld_11, zAst_10, zAst_11, zAlen_10, zAlen_11, zbd_t, zbd_f, zb_t, zb_f, zset_set, s_one0, s_one1, zis_so]
    exact ih _ _ _ (by omega) (by omega) d K
def cT (F1 F2 : Int → Bool) (t : Int) : Int := zs2 (fun r a => zb (cr F1 F2 t r a))
theorem cT_rng (t : Int) : 0 ≤ cT F1 F2 t ∧ cT F1 F2 t ≤ 192 := zs2_rng (fun r a _ _ _ _ => zb_rng _)
theorem s_countCrossings (x : CP p F1 F2 M) : ∀ (d : Nat) (t : Int) (K : zK), (0 ≤ t ∧ t ≤ 23) → zC (d + 6) 6 [.ref p, .int (zi t)] M K = K (some (.int (zi (cT F1 F2 t)))) M := by
  intro d t K ht
  simp (disch := omega) only [zen_6, e_6_0, e_6_1, e_6_2, e_6_3, e_6_4, e_6_5, e_6_10, e_6_11, e_6_13, e_6_15, e_6_17t, e_6_17f, e_6_20, e_6_21, e_6_22, e_6_23, e_6_25, e_6_26, e_6_29, e_6_32, e_6_33, e_6_34, e_6_37, e_6_40, e_6_43, e_6_46, e_6_47, zPa_some, zPn_some, zRK_some, zRK_none, zCk_t, zis_ob, zget_set_eq, zget_set_ne, zAld_10, zAld_11, zAst_10, zAst_11, zAlen_10, zAlen_11, zbd_t, zbd_f, zb_t, zb_f, zset_set, s_one0, s_one1, zis_so]
  exact l_6b x t ht 8 0 0 none (by omega) (by omega) d K
/-- ground -/
def gd (F1 F2 : Int → Bool) (t r a : Int) : Int := zb (!F1 (r * 24 + a % 24) && !F2 (r * 24 + (t - a) % 24))
theorem l_7a (x : CP p F1 F2 M) (t r : Int) (ht : 0 ≤ t ∧ t ≤ 23) (hr : 0 ≤ r ∧ r < 8) : ∀ (n : Nat) (a acc : Int), a + n = 24 → 0 ≤ a → ∀ (d : Nat) (K : zK), Ev (d + 5) 7 25 [some (.ref p), some (.int (zi acc)), some (.int (zi t)), some (.int (zi r)), some (.int (zi a))] [.int (zi 24), .int (zi a)] M K = Ev (d + 5) 7 73 [some (.ref p), some (.int (zi (zfor (fun a s => s + gd F1 F2 t r a) n a acc))), some (.int (zi t)), some (.int (zi r)), some (.int (zi 24))] [] M K := by
  intro n
  obtain ⟨u, o, C1, C2, G1, G2, q, q1, q2⟩ := x
  have e1 := s_isLand q1.1 q1.2.1
  have e2 := s_isLand q2.1 q2.2.1
  have h1 := q1.1
  have h2 := q2.1
  induction n with
  | zero =>
    intro a acc ha h0 d K
    obtain rfl : a = 24 := by omega
    simp (disch := omega) only [zen_7, e_7_0, e_7_1, e_7_2, e_7_3, e_7_4, e_7_5, e_7_7t, e_7_7f, e_7_10, e_7_11, e_7_12, e_7_13, e_7_15t, e_7_15f, e_7_18, e_7_19, e_7_21, e_7_23, e_7_25t, e_7_25f, e_7_28, e_7_29, e_7_30, e_7_33, e_7_34, e_7_36, e_7_39t, e_7_39f, e_7_42, e_7_43, e_7_46, e_7_47, e_7_48, e_7_50, e_7_51, e_7_54t, e_7_54f, e_7_57, e_7_58, e_7_61, e_7_62, e_7_65, e_7_66, e_7_67, e_7_70, e_7_76, e_7_79, e_7_82, e_7_85, e_7_86, zgf_0_0, zgf_0_1, zPa_some, zPn_some, zRK_some, zRK_none, zCk_t, zis_ob, zget_set_eq, zget_set_ne, zAld_10, zAld_11, zAst_10, zAst_11, zAlen_10, zAlen_11, zbd_t, zbd_f, zb_t, zb_f, zset_set, s_one0, s_one1, zis_so, zfor_0]
  | succ n ih =>
    intro a acc ha h0 d K
    have := ih (a + 1) (acc + gd F1 F2 t r a) (by omega) (by omega) d K
    rw [zfor_s, ← this]
    unfold gd
    cases c1 : F1 (r * 24 + a % 24) with
    | true => simp (disch := omega) only [zen_7, e_7_0, e_7_1, e_7_2, e_7_3, e_7_4, e_7_5, e_7_7t, e_7_7f, e_7_10, e_7_11, e_7_12, e_7_13, e_7_15t, e_7_15f, e_7_18, e_7_19, e_7_21, e_7_23, e_7_25t, e_7_25f, e_7_28, e_7_29, e_7_30, e_7_33, e_7_34, e_7_36, e_7_39t, e_7_39f, e_7_42, e_7_43, e_7_46, e_7_47, e_7_48, e_7_50, e_7_51, e_7_54t, e_7_54f, e_7_57, e_7_58, e_7_61, e_7_62, e_7_65, e_7_66, e_7_67, e_7_70, e_7_76, e_7_79, e_7_82, e_7_85, e_7_86, zgf_0_0, zgf_0_1, zPa_some, zPn_some, zRK_some, zRK_none, zCk_t, zis_ob, zget_set_eq, zget_set_ne, zAld_10, zAld_11, zAst_10, zAst_11, zAlen_10, zAlen_11, zbd_t, zbd_f, zb_t, zb_f, zset_set, s_one0, s_one1, zis_so, q, h1, e1, c1, Bool.not_true, Bool.false_and]
    | false =>
      cases c2 : F2 (r * 24 + (t - a) % 24) with
      | true => simp (disch := omega) only [zen_7, e_7_0, e_7_1, e_7_2, e_7_3, e_7_4, e_7_5, e_7_7t, e_7_7f, e_7_10, e_7_11, e_7_12, e_7_13, e_7_15t, e_7_15f, e_7_18, e_7_19, e_7_21, e_7_23, e_7_25t, e_7_25f, e_7_28, e_7_29, e_7_30, e_7_33, e_7_34, e_7_36, e_7_39t, e_7_39f, e_7_42, e_7_43, e_7_46, e_7_47, e_7_48, e_7_50, e_7_51, e_7_54t, e_7_54f, e_7_57, e_7_58, e_7_61, e_7_62, e_7_65, e_7_66, e_7_67, e_7_70, e_7_76, e_7_79, e_7_82, e_7_85, e_7_86, zgf_0_0, zgf_0_1, zPa_some, zPn_some, zRK_some, zRK_none, zCk_t, zis_ob, zget_set_eq, zget_set_ne, zAld_10, zAld_11, zAst_10, zAst_11, zAlen_10, zAlen_11, zbd_t, zbd_f, zb_t, zb_f, zset_set, s_one0, s_one1, zis_so, q, h1, h2, e1, e2, c1, c2, Bool.not_true, Bool.not_false, Bool.true_and]
      | false => simp (disch := omega) only [zen_7, e_7_0, e_7_1, e_7_2, e_7_3, e_7_4, e_7_5, e_7_7t, e_7_7f, e_7_10, e_7_11, e_7_12, e_7_13, e_7_15t, e_7_15f, e_7_18, e_7_19, e_7_21, e_7_23, e_7_25t, e_7_25f, e_7_28, e_7_29, e_7_30, e_7_33, e_7_34, e_7_36, e_7_39t, e_7_39f, e_7_42, e_7_43, e_7_46, e_7_47, e_7_48, e_7_50, e_7_51, e_7_54t, e_7_54f, e_7_57, e_7_58, e_7_61, e_7_62, e_7_65, e_7_66, e_7_67, e_7_70, e_7_76, e_7_79, e_7_82, e_7_85, e_7_86, zgf_0_0, zgf_0_1, zPa_some, zPn_some, zRK_some, zRK_none, zCk_t, zis_ob, zget_set_eq, zget_set_ne, zAld_10, zAld_11, zAst_10, zAst_11, zAlen_10, zAlen_11, zbd_t, zbd_f, zb_t, zb_f, zset_set, s_one0, s_one1, zis_so, q, h1, h2, e1, e2, c1, c2, Bool.not_true, Bool.not_false, Bool.true_and]
theorem l_7b (x : CP p F1 F2 M) (t : Int) (ht : 0 ≤ t ∧ t ≤ 23) : ∀ (n : Nat) (r acc : Int) (u4 : Option Value), r + n = 8 → 0 ≤ r → ∀ (d : Nat) (K : zK), ∃ u', Ev (d + 5) 7 15 [some (.ref p), some (.int (zi acc)), some (.int (zi t)), some (.int (zi r)), u4] [.int (zi 8), .int (zi r)] M K = Ev (d + 5) 7 79 [some (.ref p), some (.int (zi (zfor (fun r s => s + zs1 (gd F1 F2 t r)) n r acc))), some (.int (zi t)), some (.int (zi 8)), u'] [] M K := by
  intro n
  induction n with
  | zero =>
    intro r acc u4 ha h0 d K
    refine ⟨u4, ?_⟩
    obtain rfl : r = 8 := by omega
    simp (disch := omega) only [zen_7, e_7_0, e_7_1, e_7_2, e_7_3, e_7_4, e_7_5, e_7_7t, e_7_7f, e_7_10, e_7_11, e_7_12, e_7_13, e_7_15t, e_7_15f, e_7_18, e_7_19, e_7_21, e_7_23, e_7_28, e_7_29, e_7_30, e_7_33, e_7_34, e_7_36, e_7_39t, e_7_39f, e_7_42, e_7_43, e_7_46, e_7_47, e_7_48, e_7_50, e_7_51, e_7_54t, e_7_54f, e_7_57, e_7_58, e_7_61, e_7_62, e_7_65, e_7_66, e_7_67, e_7_70, e_7_73, e_7_76, e_7_82, e_7_85, e_7_86, zgf_0_0, zgf_0_1, zPa_some, zPn_some, zRK_some, zRK_none, zCk_t, zis_ob, zget_set_eq, zget_set_ne, zAld_10, zAld_11, zAst_10, zAst_11, zAlen_10, zAlen_11, zbd_t, zbd_f, zb_t, zb_f, zset_set, s_one0, s_one1, zis_so, zfor_0]
  | succ n ih =>
    intro r acc u4 ha h0 d K
    have e := l_7a x t r ht (by omega) 24 0 acc (by omega) (by omega) d K
    obtain ⟨u', hu⟩ := ih (r + 1) (acc + zs1 (gd F1 F2 t r)) (some (.int (zi 24))) (by omega) (by omega) d K
    refine ⟨u', ?_⟩
    rw [zfor_s]
    simp (disch := omega) only [zen_7, e_7_0, e_7_1, e_7_2, e_7_3, e_7_4, e_7_5, e_7_7t, e_7_7f, e_7_10, e_7_11, e_7_12, e_7_13, e_7_15t, e_7_15f, e_7_18, e_7_19, e_7_21, e_7_23, e_7_28, e_7_29, e_7_30, e_7_33, e_7_34, e_7_36, e_7_39t, e_7_39f, e_7_42, e_7_43, e_7_46, e_7_47, e_7_48, e_7_50, e_7_51, e_7_54t, e_7_54f, e_7_57, e_7_58, e_7_61, e_7_62, e_7_65, e_7_66, e_7_67, e_7_70, e_7_76, e_7_82, e_7_85, e_7_86, zgf_0_0, zgf_0_1, zPa_some, zPn_some, zRK_some, zRK_none, zCk_t, zis_ob, zget_set_eq, zget_set_ne, zAld_10, zAld_11, zAst_10, zAst_11, zAlen_10, zAlen_11, zbd_t, zbd_f, zb_t, zb_f, zset_set, s_one0, s_one1, zis_so]
    rw [e, zfor_add]
    simp (disch := omega) only [zen_7, e_7_0, e_7_1, e_7_2, e_7_3, e_7_4, e_7_5, e_7_7t, e_7_7f, e_7_10, e_7_11, e_7_12, e_7_13, e_7_15t, e_7_15f, e_7_18, e_7_19, e_7_21, e_7_23, e_7_28, e_7_29, e_7_30, e_7_33, e_7_34, e_7_36, e_7_39t, e_7_39f, e_7_42, e_7_43, e_7_46, e_7_47, e_7_48, e_7_50, e_7_51, e_7_54t, e_7_54f, e_7_57, e_7_58, e_7_61, e_7_62, e_7_65, e_7_66, e_7_67, e_7_70, e_7_73, e_7_76, e_7_82, e_7_85, e_7_86, zgf_0_0, zgf_0_1, zPa_some, zPn_some, zRK_some, zRK_none, zCk_t, zis_ob, zget_set_eq, zget_set_ne, zAld_10, zAld_11, zAst_10, zAst_11, zAlen_10, zAlen_11, zbd_t, zbd_f, zb_t, zb_f, zset_set, s_one0, s_one1, zis_so]
    exact hu
theorem l_7c (x : CP p F1 F2 M) : ∀ (n : Nat) (t acc : Int) (u3 u4 : Option Value), t + n = 24 → 0 ≤ t → ∀ (d : Nat) (K : zK), Ev (d + 5) 7 7 [some (.ref p), some (.int (zi acc)), some (.int (zi t)), u3, u4] [.int (zi 24), .int (zi t)] M K = K (some (.int (zi (zfor (fun t s => s + zs2 (gd F1 F2 t)) n t acc)))) M := by
  intro n
  induction n with
  | zero =>
    intro t acc u3 u4 ha h0 d K
    simp (disch := omega) only [zen_7, e_7_0, e_7_1, e_7_2, e_7_3, e_7_4, e_7_5, e_7_7t, e_7_7f, e_7_10, e_7_11, e_7_12, e_7_13, e_7_15t, e_7_15f, e_7_18, e_7_19, e_7_21, e_7_23, e_7_28, e_7_29, e_7_30, e_7_33, e_7_34, e_7_36, e_7_39t, e_7_39f, e_7_42, e_7_43, e_7_46, e_7_47, e_7_48, e_7_50, e_7_51, e_7_54t, e_7_54f, e_7_57, e_7_58, e_7_61, e_7_62, e_7_65, e_7_66, e_7_67, e_7_70, e_7_73, e_7_76, e_7_79, e_7_82, e_7_85, e_7_86, zgf_0_0, zgf_0_1, zPa_some, zPn_some, zRK_some, zRK_none, zCk_t, zis_ob, zget_set_eq, zget_set_ne, zAld_10, zAld_11, zAst_10, zAst_11, zAlen_10, zAlen_11, zbd_t, zbd_f, zb_t, zb_f, zset_set, s_one0, s_one1, zis_so, zfor_0]
  | succ n ih =>
    intro t acc u3 u4 ha h0 d K
    obtain ⟨u', hu⟩ := l_7b x t (by omega) 8 0 acc u4 (by omega) (by omega) d K
    rw [zfor_s]
    simp (disch := omega) only [zen_7, e_7_0, e_7_1, e_7_2, e_7_3, e_7_4, e_7_5, e_7_7t, e_7_7f, e_7_10, e_7_11, e_7_12, e_7_13, e_7_18, e_7_19, e_7_21, e_7_23, e_7_28, e_7_29, e_7_30, e_7_33, e_7_34, e_7_36, e_7_39t, e_7_39f, e_7_42, e_7_43, e_7_46, e_7_47, e_7_48, e_7_50, e_7_51, e_7_54t, e_7_54f, e_7_57, e_7_58, e_7_61, e_7_62, e_7_65, e_7_66, e_7_67, e_7_70, e_7_76, e_7_82, e_7_85, e_7_86, zgf_0_0, zgf_0_1, zPa_some, zPn_some, zRK_some, zRK_none, zCk_t, zis_ob, zget_set_eq, zget_set_ne, zAld_10, zAld_11, zAst_10, zAst_11, zAlen_10, zAlen_11, zbd_t, zbd_f, zb_t, zb_f, zset_set, s_one0, s_one1, zis_so]
    rw [hu, zfor_add]
    simp (disch := omega) only [zen_7, e_7_0, e_7_1, e_7_2, e_7_3, e_7_4, e_7_5, e_7_7t, e_7_7f, e_7_10, e_7_11, e_7_12, e_7_13, e_7_18, e_7_19, e_7_21, e_7_23, e_7_28, e_7_29, e_7_30, e_7_33, e_7_34, e_7_36, e_7_39t, e_7_39f, e_7_42, e_7_43, e_7_46, e_7_47, e_7_48, e_7_50, e_7_51, e_7_54t, e_7_54f, e_7_57, e_7_58, e_7_61, e_7_62, e_7_65, e_7_66, e_7_67, e_7_70, e_7_73, e_7_76, e_7_79, e_7_82, e_7_85, e_7_86, zgf_0_0, zgf_0_1, zPa_some, zPn_some, zRK_some, zRK_none, zCk_t, zis_ob, zget_set_eq, zget_set_ne, zAld_10, zAld_11, zAst_10, zAst_11, zAlen_10, zAlen_11, zbd_t, zbd_f, zb_t, zb_f, zset_set, s_one0, s_one1, zis_so]
    exact ih _ _ _ _ (by omega) (by omega) d K
theorem s_countGround (x : CP p F1 F2 M) : ∀ (d : Nat) (K : zK), zC (d + 6) 7 [.ref p] M K = K (some (.int (zi (zfor (fun t s => s + zs2 (gd F1 F2 t)) 24 0 0)))) M := by
  intro d K
  simp (disch := omega) only [zen_7, e_7_0, e_7_1, e_7_2, e_7_3, e_7_4, e_7_5, e_7_10, e_7_11, e_7_12, e_7_13, e_7_15t, e_7_15f, e_7_18, e_7_19, e_7_21, e_7_23, e_7_25t, e_7_25f, e_7_28, e_7_29, e_7_30, e_7_33, e_7_34, e_7_36, e_7_39t, e_7_39f, e_7_42, e_7_43, e_7_46, e_7_47, e_7_48, e_7_50, e_7_51, e_7_54t, e_7_54f, e_7_57, e_7_58, e_7_61, e_7_62, e_7_65, e_7_66, e_7_67, e_7_70, e_7_73, e_7_76, e_7_79, e_7_82, e_7_85, e_7_86, zgf_0_0, zgf_0_1, zPa_some, zPn_some, zRK_some, zRK_none, zCk_t, zis_ob, zget_set_eq, zget_set_ne, zAld_10, zAld_11, zAst_10, zAst_11, zAlen_10, zAlen_11, zbd_t, zbd_f, zb_t, zb_f, zset_set, s_one0, s_one1, zis_so]
  exact l_7c x 24 0 0 none none (by omega) (by omega) d K
/-- over all turns -/
def f_cg (F1 F2 : Int → Bool) (t : Int) (q : Int × Int) : Int × Int := if q.1 < cT F1 F2 t then (cT F1 F2 t, t) else q
def aRound (F1 F2 : Int → Bool) (what n t sum least : Int) (m : Nat) (q : Int × Int) : Int := if what = 0 then zfor (fun t s => s + cT F1 F2 t) m t sum else if what = 1 then zfor (fun t s => min s (cT F1 F2 t)) m t least else if what = 2 then (zfor (f_cg F1 F2) m t q).1 else (zfor (f_cg F1 F2) m t q).2
theorem l_8 (x : CP p F1 F2 M) (what : Int) (hw : 0 ≤ what ∧ what ≤ 3) : ∀ (n : Nat) (t sum least : Int) (q : Int × Int) (u7 : Option Value), t + n = 24 → 0 ≤ t → (0 ≤ least ∧ least ≤ 999 ∧ -1 ≤ q.1 ∧ q.1 ≤ 192) → ∀ (d : Nat) (K : zK), Ev (d + 6) 8 19 [some (.ref p), some (.int (zi what)), some (.int (zi sum)), some (.int (zi least)), some (.int (zi (q.1))), some (.int (zi (q.2))), some (.int (zi t)), u7] [.int (zi 24), .int (zi t)] M K = K (some (.int (zi (aRound F1 F2 what 0 t sum least n q)))) M := by
  intro n
  have e := s_countCrossings x
  obtain ⟨u, o, C1, C2, G1, G2, hq, q1, q2⟩ := x
  induction n with
  | zero =>
    intro t sum least q u7 ha h0 hr d K
    unfold aRound
    by_cases w0 : what = 0
    · subst w0; simp (disch := omega) only [zen_8, e_8_0, e_8_1, e_8_2, e_8_5, e_8_6, e_8_7, e_8_9, e_8_10, e_8_12, e_8_13, e_8_15, e_8_17, e_8_19t, e_8_19f, e_8_22, e_8_23, e_8_25, e_8_28, e_8_30, e_8_31, e_8_33, e_8_34, e_8_35, e_8_36, e_8_38, e_8_41, e_8_42, e_8_44, e_8_46t, e_8_46f, e_8_49, e_8_51, e_8_53, e_8_55, e_8_57, e_8_60, e_8_63, e_8_64k0, e_8_64k1, e_8_64k2, e_8_64kd, e_8_92, e_8_93, e_8_94, e_8_95, e_8_96, e_8_98, e_8_99, e_8_101, zPa_some, zPn_some, zRK_some, zRK_none, zCk_t, zis_ob, zget_set_eq, zget_set_ne, zAld_10, zAld_11, zAst_10, zAst_11, zAlen_10, zAlen_11, zbd_t, zbd_f, zb_t, zb_f, zset_set, s_one0, s_one1, zis_so, zfor_0, if_true]
    · rw [if_neg w0]
      by_cases w1 : what = 1
      · subst w1; simp (disch := omega) only [zen_8, e_8_0, e_8_1, e_8_2, e_8_5, e_8_6, e_8_7, e_8_9, e_8_10, e_8_12, e_8_13, e_8_15, e_8_17, e_8_19t, e_8_19f, e_8_22, e_8_23, e_8_25, e_8_28, e_8_30, e_8_31, e_8_33, e_8_34, e_8_35, e_8_36, e_8_38, e_8_41, e_8_42, e_8_44, e_8_46t, e_8_46f, e_8_49, e_8_51, e_8_53, e_8_55, e_8_57, e_8_60, e_8_63, e_8_64k0, e_8_64k1, e_8_64k2, e_8_64kd, e_8_92, e_8_93, e_8_94, e_8_95, e_8_96, e_8_98, e_8_99, e_8_101, zPa_some, zPn_some, zRK_some, zRK_none, zCk_t, zis_ob, zget_set_eq, zget_set_ne, zAld_10, zAld_11, zAst_10, zAst_11, zAlen_10, zAlen_11, zbd_t, zbd_f, zb_t, zb_f, zset_set, s_one0, s_one1, zis_so, zfor_0, if_true]
      · rw [if_neg w1]
        by_cases w2 : what = 2
        · subst w2; simp (disch := omega) only [zen_8, e_8_0, e_8_1, e_8_2, e_8_5, e_8_6, e_8_7, e_8_9, e_8_10, e_8_12, e_8_13, e_8_15, e_8_17, e_8_19t, e_8_19f, e_8_22, e_8_23, e_8_25, e_8_28, e_8_30, e_8_31, e_8_33, e_8_34, e_8_35, e_8_36, e_8_38, e_8_41, e_8_42, e_8_44, e_8_46t, e_8_46f, e_8_49, e_8_51, e_8_53, e_8_55, e_8_57, e_8_60, e_8_63, e_8_64k0, e_8_64k1, e_8_64k2, e_8_64kd, e_8_92, e_8_93, e_8_94, e_8_95, e_8_96, e_8_98, e_8_99, e_8_101, zPa_some, zPn_some, zRK_some, zRK_none, zCk_t, zis_ob, zget_set_eq, zget_set_ne, zAld_10, zAld_11, zAst_10, zAst_11, zAlen_10, zAlen_11, zbd_t, zbd_f, zb_t, zb_f, zset_set, s_one0, s_one1, zis_so, zfor_0, if_true]
        · rw [if_neg w2]
          obtain rfl : what = 3 := by omega
          simp (disch := omega) only [zen_8, e_8_0, e_8_1, e_8_2, e_8_5, e_8_6, e_8_7, e_8_9, e_8_10, e_8_12, e_8_13, e_8_15, e_8_17, e_8_19t, e_8_19f, e_8_22, e_8_23, e_8_25, e_8_28, e_8_30, e_8_31, e_8_33, e_8_34, e_8_35, e_8_36, e_8_38, e_8_41, e_8_42, e_8_44, e_8_46t, e_8_46f, e_8_49, e_8_51, e_8_53, e_8_55, e_8_57, e_8_60, e_8_63, e_8_64k0, e_8_64k1, e_8_64k2, e_8_64kd, e_8_92, e_8_93, e_8_94, e_8_95, e_8_96, e_8_98, e_8_99, e_8_101, zPa_some, zPn_some, zRK_some, zRK_none, zCk_t, zis_ob, zget_set_eq, zget_set_ne, zAld_10, zAld_11, zAst_10, zAst_11, zAlen_10, zAlen_11, zbd_t, zbd_f, zb_t, zb_f, zset_set, s_one0, s_one1, zis_so, zfor_0]
  | succ n ih =>
    intro t sum least q u7 ha h0 hr d K
    have hc := cT_rng (F1 := F1) (F2 := F2) t
    have hr2 : 0 ≤ min least (cT F1 F2 t) ∧ min least (cT F1 F2 t) ≤ 999 ∧ -1 ≤ (f_cg F1 F2 t q).1 ∧ (f_cg F1 F2 t q).1 ≤ 192 := by
      unfold f_cg
      split
      · exact ⟨by omega, by omega, by show (-1 : Int) ≤ cT F1 F2 t; omega, by show cT F1 F2 t ≤ 192; omega⟩
      · exact ⟨by omega, by omega, by omega, by omega⟩
    have := ih (t + 1) (sum + cT F1 F2 t) (min least (cT F1 F2 t)) (f_cg F1 F2 t q) (some (.int (zi (cT F1 F2 t)))) (by omega) (by omega) hr2 d K
    rw [show aRound F1 F2 what 0 t sum least (n + 1) q = aRound F1 F2 what 0 (t + 1) (sum + cT F1 F2 t) (min least (cT F1 F2 t)) n (f_cg F1 F2 t q) from rfl, ← this]
    unfold f_cg
    by_cases c : q.1 < cT F1 F2 t
    · rw [if_pos c]
      simp (disch := omega) only [zen_8, e_8_0, e_8_1, e_8_2, e_8_5, e_8_6, e_8_7, e_8_9, e_8_10, e_8_12, e_8_13, e_8_15, e_8_17, e_8_19t, e_8_19f, e_8_22, e_8_23, e_8_25, e_8_28, e_8_30, e_8_31, e_8_33, e_8_34, e_8_35, e_8_36, e_8_38, e_8_41, e_8_42, e_8_44, e_8_46t, e_8_46f, e_8_49, e_8_51, e_8_53, e_8_55, e_8_57, e_8_60, e_8_63, e_8_64k0, e_8_64k1, e_8_64k2, e_8_64kd, e_8_92, e_8_93, e_8_94, e_8_95, e_8_96, e_8_98, e_8_99, e_8_101, zPa_some, zPn_some, zRK_some, zRK_none, zCk_t, zis_ob, zget_set_eq, zget_set_ne, zAld_10, zAld_11, zAst_10, zAst_11, zAlen_10, zAlen_11, zbd_t, zbd_f, zb_t, zb_f, zset_set, s_one0, s_one1, zis_so, hq, e, s_min]
    · rw [if_neg c]
      simp (disch := omega) only [zen_8, e_8_0, e_8_1, e_8_2, e_8_5, e_8_6, e_8_7, e_8_9, e_8_10, e_8_12, e_8_13, e_8_15, e_8_17, e_8_19t, e_8_19f, e_8_22, e_8_23, e_8_25, e_8_28, e_8_30, e_8_31, e_8_33, e_8_34, e_8_35, e_8_36, e_8_38, e_8_41, e_8_42, e_8_44, e_8_46t, e_8_46f, e_8_49, e_8_51, e_8_53, e_8_55, e_8_57, e_8_60, e_8_63, e_8_64k0, e_8_64k1, e_8_64k2, e_8_64kd, e_8_92, e_8_93, e_8_94, e_8_95, e_8_96, e_8_98, e_8_99, e_8_101, zPa_some, zPn_some, zRK_some, zRK_none, zCk_t, zis_ob, zget_set_eq, zget_set_ne, zAld_10, zAld_11, zAst_10, zAst_11, zAlen_10, zAlen_11, zbd_t, zbd_f, zb_t, zb_f, zset_set, s_one0, s_one1, zis_so, hq, e, s_min]
theorem s_crossingsOfAll (x : CP p F1 F2 M) : ∀ (d : Nat) (what : Int) (K : zK), (0 ≤ what ∧ what ≤ 3) → zC (d + 7) 8 [.ref p, .int (zi what)] M K = K (some (.int (zi (aRound F1 F2 what 0 0 0 192 24 (-1, 0))))) M := by
  intro d what K hw
  simp (disch := omega) only [zen_8, e_8_0, e_8_1, e_8_2, e_8_5, e_8_6, e_8_7, e_8_9, e_8_10, e_8_12, e_8_13, e_8_15, e_8_17, e_8_22, e_8_23, e_8_25, e_8_28, e_8_30, e_8_31, e_8_33, e_8_34, e_8_35, e_8_36, e_8_38, e_8_41, e_8_42, e_8_44, e_8_46t, e_8_46f, e_8_49, e_8_51, e_8_53, e_8_55, e_8_57, e_8_60, e_8_63, e_8_64k0, e_8_64k1, e_8_64k2, e_8_64kd, e_8_92, e_8_93, e_8_94, e_8_95, e_8_96, e_8_98, e_8_99, e_8_101, zPa_some, zPn_some, zRK_some, zRK_none, zCk_t, zis_ob, zget_set_eq, zget_set_ne, zAld_10, zAld_11, zAst_10, zAst_11, zAlen_10, zAlen_11, zbd_t, zbd_f, zb_t, zb_f, zset_set, s_one0, s_one1, zis_so]
  exact l_8 x what hw 24 0 0 192 (-1, 0) none (by omega) (by omega) (by decide) d K
/-- outward less inward -/
def gO (F1 F2 : Int → Bool) (t by' r a : Int) : Int := zb (cr F1 F2 t r a && nr F1 F2 (t + 1) (r + by') a)
theorem l_9a (x : CP p F1 F2 M) (t r : Int) (ht : 0 ≤ t ∧ t ≤ 23) (hr : 0 ≤ r ∧ r < 8) : ∀ (n : Nat) (a acc : Int), a + n = 24 → 0 ≤ a → ∀ (d : Nat) (K : zK), Ev (d + 6) 9 26 [some (.ref p), some (.int (zi t)), some (.int (zi ((t + 1) % 24))), some (.int (zi acc)), some (.int (zi r)), some (.int (zi a))] [.int (zi 24), .int (zi a)] M K = Ev (d + 6) 9 81 [some (.ref p), some (.int (zi t)), some (.int (zi ((t + 1) % 24))), some (.int (zi (zfor (fun a s => s + (gO F1 F2 t 1 r a - gO F1 F2 t (-1) r a)) n a acc))), some (.int (zi r)), some (.int (zi 24))] [] M K := by
  intro n
  have e := s_crosses x
  have e2 := s_crossesNear x
  obtain ⟨u, o, C1, C2, G1, G2, q, q1, q2⟩ := x
  induction n with
  | zero =>
    intro a acc ha h0 d K
    obtain rfl : a = 24 := by omega
    simp (disch := omega) only [zen_9, e_9_0, e_9_1, e_9_2, e_9_3, e_9_6, e_9_7, e_9_8, e_9_9, e_9_10, e_9_12, e_9_14, e_9_16t, e_9_16f, e_9_19, e_9_20, e_9_22, e_9_24, e_9_26t, e_9_26f, e_9_29, e_9_30, e_9_32, e_9_34, e_9_35, e_9_38t, e_9_38f, e_9_41, e_9_42, e_9_43, e_9_45, e_9_46, e_9_47, e_9_49, e_9_50, e_9_53, e_9_56, e_9_57, e_9_58, e_9_59, e_9_60, e_9_62, e_9_63, e_9_64, e_9_66, e_9_67, e_9_70, e_9_73, e_9_74, e_9_75, e_9_78, e_9_84, e_9_87, e_9_88, zPa_some, zPn_some, zRK_some, zRK_none, zCk_t, zis_ob, zget_set_eq, zget_set_ne, zAld_10, zAld_11, zAst_10, zAst_11, zAlen_10, zAlen_11, zbd_t, zbd_f, zb_t, zb_f, zset_set, s_one0, s_one1, zis_so, zfor_0]
  | succ n ih =>
    intro a acc ha h0 d K
    have := ih (a + 1) (acc + (gO F1 F2 t 1 r a - gO F1 F2 t (-1) r a)) (by omega) (by omega) d K
    rw [zfor_s, ← this]
    have m1 : ∀ r', nr F1 F2 ((t + 1) % 24) r' a = nr F1 F2 (t + 1) r' a := by
      intro r'
      unfold nr
      rw [crr_mod (t' := t + 1) rfl (by omega), crr_mod (a := a + 1) (t' := t + 1) rfl (by omega), crr_mod (a := a - 1) (t' := t + 1) rfl (by omega)]
    unfold gO
    cases c : cr F1 F2 t r a with
    | false =>
      simp (disch := omega) only [zen_9, e_9_0, e_9_1, e_9_2, e_9_3, e_9_6, e_9_7, e_9_8, e_9_9, e_9_10, e_9_12, e_9_14, e_9_16t, e_9_16f, e_9_19, e_9_20, e_9_22, e_9_24, e_9_26t, e_9_26f, e_9_29, e_9_30, e_9_32, e_9_34, e_9_35, e_9_38t, e_9_38f, e_9_41, e_9_42, e_9_43, e_9_45, e_9_46, e_9_47, e_9_49, e_9_50, e_9_53, e_9_56, e_9_57, e_9_58, e_9_59, e_9_60, e_9_62, e_9_63, e_9_64, e_9_66, e_9_67, e_9_70, e_9_73, e_9_74, e_9_75, e_9_78, e_9_84, e_9_87, e_9_88, zPa_some, zPn_some, zRK_some, zRK_none, zCk_t, zis_ob, zget_set_eq, zget_set_ne, zAld_10, zAld_11, zAst_10, zAst_11, zAlen_10, zAlen_11, zbd_t, zbd_f, zb_t, zb_f, zset_set, s_one0, s_one1, zis_so, q, e, crr_in, c, Bool.false_and, Int.sub_self, Int.add_zero]
    | true =>
      simp (disch := omega) only [zen_9, e_9_0, e_9_1, e_9_2, e_9_3, e_9_6, e_9_7, e_9_8, e_9_9, e_9_10, e_9_12, e_9_14, e_9_16t, e_9_16f, e_9_19, e_9_20, e_9_22, e_9_24, e_9_26t, e_9_26f, e_9_29, e_9_30, e_9_32, e_9_34, e_9_35, e_9_38t, e_9_38f, e_9_41, e_9_42, e_9_43, e_9_45, e_9_46, e_9_47, e_9_49, e_9_50, e_9_53, e_9_56, e_9_57, e_9_58, e_9_59, e_9_60, e_9_62, e_9_63, e_9_64, e_9_66, e_9_67, e_9_70, e_9_73, e_9_74, e_9_75, e_9_78, e_9_84, e_9_87, e_9_88, zPa_some, zPn_some, zRK_some, zRK_none, zCk_t, zis_ob, zget_set_eq, zget_set_ne, zAld_10, zAld_11, zAst_10, zAst_11, zAlen_10, zAlen_11, zbd_t, zbd_f, zb_t, zb_f, zset_set, s_one0, s_one1, zis_so, q, e, e2, s_oneIf, crr_in, c, m1, Bool.true_and]
      rw [show r + -1 = r - 1 by omega, Int.add_sub_assoc]
theorem l_9b (x : CP p F1 F2 M) (t : Int) (ht : 0 ≤ t ∧ t ≤ 23) : ∀ (n : Nat) (r acc : Int) (u4 : Option Value), r + n = 8 → 0 ≤ r → ∀ (d : Nat) (K : zK), Ev (d + 6) 9 16 [some (.ref p), some (.int (zi t)), some (.int (zi ((t + 1) % 24))), some (.int (zi acc)), some (.int (zi r)), u4] [.int (zi 8), .int (zi r)] M K = K (some (.int (zi (zfor (fun r s => s + zs1 (fun a => gO F1 F2 t 1 r a - gO F1 F2 t (-1) r a)) n r acc)))) M := by
  intro n
  induction n with
  | zero =>
    intro r acc u4 ha h0 d K
    simp (disch := omega) only [zen_9, e_9_0, e_9_1, e_9_2, e_9_3, e_9_6, e_9_7, e_9_8, e_9_9, e_9_10, e_9_12, e_9_14, e_9_16t, e_9_16f, e_9_19, e_9_20, e_9_22, e_9_24, e_9_29, e_9_30, e_9_32, e_9_34, e_9_35, e_9_38t, e_9_38f, e_9_41, e_9_42, e_9_43, e_9_45, e_9_46, e_9_47, e_9_49, e_9_50, e_9_53, e_9_56, e_9_57, e_9_58, e_9_59, e_9_60, e_9_62, e_9_63, e_9_64, e_9_66, e_9_67, e_9_70, e_9_73, e_9_74, e_9_75, e_9_78, e_9_81, e_9_84, e_9_87, e_9_88, zPa_some, zPn_some, zRK_some, zRK_none, zCk_t, zis_ob, zget_set_eq, zget_set_ne, zAld_10, zAld_11, zAst_10, zAst_11, zAlen_10, zAlen_11, zbd_t, zbd_f, zb_t, zb_f, zset_set, s_one0, s_one1, zis_so, zfor_0]
  | succ n ih =>
    intro r acc u4 ha h0 d K
    have e := l_9a x t r ht (by omega) 24 0 acc (by omega) (by omega) d K
    rw [zfor_s]
    simp (disch := omega) only [zen_9, e_9_0, e_9_1, e_9_2, e_9_3, e_9_6, e_9_7, e_9_8, e_9_9, e_9_10, e_9_12, e_9_14, e_9_16t, e_9_16f, e_9_19, e_9_20, e_9_22, e_9_24, e_9_29, e_9_30, e_9_32, e_9_34, e_9_35, e_9_38t, e_9_38f, e_9_41, e_9_42, e_9_43, e_9_45, e_9_46, e_9_47, e_9_49, e_9_50, e_9_53, e_9_56, e_9_57, e_9_58, e_9_59, e_9_60, e_9_62, e_9_63, e_9_64, e_9_66, e_9_67, e_9_70, e_9_73, e_9_74, e_9_75, e_9_78, e_9_84, e_9_87, e_9_88, zPa_some, zPn_some, zRK_some, zRK_none, zCk_t, zis_ob, zget_set_eq, zget_set_ne, zAld_10, zAld_11, zAst_10, zAst_11, zAlen_10, zAlen_11, zbd_t, zbd_f, zb_t, zb_f, zset_set, s_one0, s_one1, zis_so]
    rw [e, zfor_add]
    simp (disch := omega) only [zen_9, e_9_0, e_9_1, e_9_2, e_9_3, e_9_6, e_9_7, e_9_8, e_9_9, e_9_10, e_9_12, e_9_14, e_9_16t, e_9_16f, e_9_19, e_9_20, e_9_22, e_9_24, e_9_29, e_9_30, e_9_32, e_9_34, e_9_35, e_9_38t, e_9_38f, e_9_41, e_9_42, e_9_43, e_9_45, e_9_46, e_9_47, e_9_49, e_9_50, e_9_53, e_9_56, e_9_57, e_9_58, e_9_59, e_9_60, e_9_62, e_9_63, e_9_64, e_9_66, e_9_67, e_9_70, e_9_73, e_9_74, e_9_75, e_9_78, e_9_81, e_9_84, e_9_87, e_9_88, zPa_some, zPn_some, zRK_some, zRK_none, zCk_t, zis_ob, zget_set_eq, zget_set_ne, zAld_10, zAld_11, zAst_10, zAst_11, zAlen_10, zAlen_11, zbd_t, zbd_f, zb_t, zb_f, zset_set, s_one0, s_one1, zis_so]
    exact ih _ _ _ (by omega) (by omega) d K
def oT (F1 F2 : Int → Bool) (t : Int) : Int := zs2 (gO F1 F2 t 1) - zs2 (gO F1 F2 t (-1))
theorem s_outwardLess (x : CP p F1 F2 M) : ∀ (d : Nat) (t : Int) (K : zK), (0 ≤ t ∧ t ≤ 23) → zC (d + 7) 9 [.ref p, .int (zi t)] M K = K (some (.int (zi (oT F1 F2 t)))) M := by
  intro d t K ht
  simp (disch := omega) only [zen_9, e_9_0, e_9_1, e_9_2, e_9_3, e_9_6, e_9_7, e_9_8, e_9_9, e_9_10, e_9_12, e_9_14, e_9_19, e_9_20, e_9_22, e_9_24, e_9_26t, e_9_26f, e_9_29, e_9_30, e_9_32, e_9_34, e_9_35, e_9_38t, e_9_38f, e_9_41, e_9_42, e_9_43, e_9_45, e_9_46, e_9_47, e_9_49, e_9_50, e_9_53, e_9_56, e_9_57, e_9_58, e_9_59, e_9_60, e_9_62, e_9_63, e_9_64, e_9_66, e_9_67, e_9_70, e_9_73, e_9_74, e_9_75, e_9_78, e_9_81, e_9_84, e_9_87, e_9_88, zPa_some, zPn_some, zRK_some, zRK_none, zCk_t, zis_ob, zget_set_eq, zget_set_ne, zAld_10, zAld_11, zAst_10, zAst_11, zAlen_10, zAlen_11, zbd_t, zbd_f, zb_t, zb_f, zset_set, s_one0, s_one1, zis_so, s_around]
  have := l_9b x t ht 8 0 0 none (by omega) (by omega) d K
  rw [this]
  unfold oT
  rw [← zs2_sub]
  rfl
end COUPLE
