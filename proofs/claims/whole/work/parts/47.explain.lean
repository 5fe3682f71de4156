/-! which hangings explain what was felt -/
def hK (i : Int) : Int := if i ≤ 0 then 0 else 1 + (i - 1) / 480
def hZ (i : Int) : Int := if i ≤ 0 then 0 else 1 + (i - 1) % 480 / 24
def hD (i : Int) : Int := if i ≤ 0 then 0 else (i - 1) % 480 % 24
def hCo (i : Int) : Int := 1000 * hK i + 24 * hZ i + hD i
def okF (wd k s e : Int) (R : Nat → Int → Int) (i : Int) (b : Bool) : Bool := b && decide (-1 ≤ gp wd k s e 7 (R 5 i) (R 6 i) - R 7 i ∧ gp wd k s e 7 (R 5 i) (R 6 i) - R 7 i ≤ 1)
def gdI (v : Nat → Int) (R : Nat → Int → Int) (i : Int) : Bool := zfor (okF (v 6) (hK i) (hZ i) (hD i) R) (v 18).toNat 0 true
theorem okF_false {wd k s e : Int} {R : Nat → Int → Int} : ∀ (n : Nat) (i : Int), zfor (okF wd k s e R) n i false = false := by
  intro n i
  refine zfor_inv (fun b => b = false) n i false rfl (fun j t _ _ h => ?_)
  rw [h]
  rfl
theorem hRv {v : Nat → Int} (rv : RV v) {i : Int} (h : 0 ≤ i ∧ i < 961) : gRv (v 6) (hK i) (hZ i) (hD i) := by
  have r := rv.2.1
  unfold gRv hK hZ hD
  by_cases c : i ≤ 0
  · rw [if_pos c, if_pos c, if_pos c]; omega
  · rw [if_neg c, if_neg c, if_neg c]; omega
def exN (v : Nat → Int) (R : Nat → Int → Int) (n : Nat) (i s : Int) : Int := zfor (fun i s => s + zb (gdI v R i)) n i s
def exC (v : Nat → Int) (R : Nat → Int → Int) (q : Int) : Nat → Int → Int → Int
  | 0, _, _ => -1
  | n + 1, i, f => if gdI v R i = true then (if f = q then hCo i else exC v R q n (i + 1) (f + 1)) else exC v R q n (i + 1) f
def exP (v : Nat → Int) (R : Nat → Int → Int) (q i : Int) (p : Int × Int) : Int × Int := if gdI v R i = true then (p.1 + 1, if p.1 = q then hCo i else p.2) else p
theorem exP_1 {v : Nat → Int} {R : Nat → Int → Int} {q : Int} : ∀ (n : Nat) (i : Int) (p : Int × Int), (zfor (exP v R q) n i p).1 = exN v R n i p.1 := by
  intro n
  induction n with
  | zero => intro i p; rfl
  | succ n ih =>
    intro i p
    rw [zfor_s, ih]
    unfold exN
    rw [zfor_s]
    congr 1
    unfold exP
    cases gdI v R i with
    | true => rfl
    | false => exact (Int.add_zero _).symm
theorem exP_late {v : Nat → Int} {R : Nat → Int → Int} {q : Int} : ∀ (n : Nat) (i : Int) (p : Int × Int), q < p.1 → (zfor (exP v R q) n i p).2 = p.2 := by
  intro n
  induction n with
  | zero => intro i p _; rfl
  | succ n ih =>
    intro i p h
    rw [zfor_s]
    unfold exP
    cases gdI v R i with
    | true =>
      rw [if_pos rfl, if_neg (by omega)]
      rw [show (fun (i : Int) (p : Int × Int) => if gdI v R i = true then (p.1 + 1, if p.1 = q then hCo i else p.2) else p) = exP v R q from rfl]
      rw [ih (i + 1) (p.1 + 1, p.2) (by show q < p.1 + 1; omega)]
    | false =>
      rw [if_neg (by decide)]
      exact ih (i + 1) p h
theorem exP_2 {v : Nat → Int} {R : Nat → Int → Int} {q : Int} : ∀ (n : Nat) (i f : Int), (zfor (exP v R q) n i (f, -1)).2 = exC v R q n i f := by
  intro n
  induction n with
  | zero => intro i f; rfl
  | succ n ih =>
    intro i f
    rw [zfor_s]
    unfold exC
    have e : exP v R q i (f, -1) = if gdI v R i = true then (f + 1, if f = q then hCo i else -1) else (f, -1) := rfl
    rw [e]
    cases gdI v R i with
    | true =>
      rw [if_pos rfl, if_pos rfl]
      by_cases c : f = q
      · rw [if_pos c, if_pos c]
        exact exP_late n (i + 1) _ (by show q < f + 1; omega)
      · rw [if_neg c, if_neg c]
        exact ih _ _
    | false =>
      rw [if_neg (by decide), if_neg (by decide)]
      exact ih _ _
theorem exP_0 {v : Nat → Int} {R : Nat → Int → Int} {q : Int} : 0 ≤ (zfor (exP v R q) 961 0 (0, -1)).1 ∧ ((zfor (exP v R q) 961 0 (0, -1)).1 = 0 → (zfor (exP v R q) 961 0 (0, -1)).2 = -1) := by
  refine zfor_inv (fun p : Int × Int => 0 ≤ p.1 ∧ (p.1 = 0 → p.2 = -1)) 961 0 (0, -1) ⟨by decide, fun _ => rfl⟩ (fun j p _ _ h => ?_)
  unfold exP
  cases gdI v R j with
  | true =>
    rw [if_pos rfl]
    exact ⟨by show 0 ≤ p.1 + 1; omega, fun z => by have z2 : p.1 + 1 = 0 := z; omega⟩
  | false =>
    rw [if_neg (by decide)]
    exact h
theorem s_abs {d : Nat} {x : Int} {M : zM} {K : zK} (h : -2147483647 ≤ x ∧ x < 2147483648) : zC (d + 1) 220 [.int (zi x)] M K = K (some (.int (zi (if x < 0 then -x else x)))) M := by
  by_cases c : x < 0
  · rw [if_pos c]
    simp (disch := omega) only [zen_220, e_220_0, e_220_1t, e_220_1f, e_220_4, e_220_5, e_220_6, e_220_9, e_220_10, zPa_some, zPn_some, zRK_some, zRK_none, zCk_t, zis_ob, zget_set_eq, zget_set_ne, zAld_10, zAld_11, zAst_10, zAst_11, zAlen_10, zAlen_11, zbd_t, zbd_f, zb_t, zb_f, zset_set, s_one0, s_one1, zis_so]
  · rw [if_neg c]
    simp (disch := omega) only [zen_220, e_220_0, e_220_1t, e_220_1f, e_220_4, e_220_5, e_220_6, e_220_9, e_220_10, zPa_some, zPn_some, zRK_some, zRK_none, zCk_t, zis_ob, zget_set_eq, zget_set_ne, zAld_10, zAld_11, zAst_10, zAst_11, zAlen_10, zAlen_11, zbd_t, zbd_f, zb_t, zb_f, zset_set, s_one0, s_one1, zis_so]
section EXX
variable {b c : Nat} {v w : Nat → Int} {F C D : Int → Bool} {G : Int → Int} {R : Nat → Int → Int} {M : zM} {k s e : Int}
def TX (b : Nat) (v : Nat → Int) (R : Nat → Int → Int) (k s e : Int) (M : zM) : Prop := zget M (b + 4) = some (zOb 7 [.ref (b + 5), .ref (b + 6), .ref (b + 7), .ref (b + 8), .int (zi (v 18))]) ∧ zget M (b + 5) = some (zA 10 12 (R 5)) ∧ zget M (b + 6) = some (zA 10 12 (R 6)) ∧ zget M (b + 7) = some (zA 10 12 (R 7)) ∧ zget M (b + 8) = some (zOb 2 [.int (zi (v 6)), .int (zi k), .int (zi s), .int (zi e)]) ∧ SL M ∧ (M.1 < b ∨ b + 47 ≤ M.1)
theorem TX_set {k' s' e' : Int} (x : TX b v R k s e M) : TX b v R k' s' e' (zset M (b + 8) (zOb 2 [.int (zi (v 6)), .int (zi k'), .int (zi s'), .int (zi e')])) := by
  obtain ⟨x1, x2, x3, x4, x5, x6, x7⟩ := x
  exact ⟨(zget_set_ne (by omega)).trans x1, (zget_set_ne (by omega)).trans x2, (zget_set_ne (by omega)).trans x3, (zget_set_ne (by omega)).trans x4, zget_set_eq, SL_fr x6 (zFr_set (lo := b + 8) (n := 1) (by omega)) (by omega), x7⟩
theorem l_90 (x : TX b v R k s e M) (rt : RT R) (rv : RV v) (g : gRv (v 6) k s e) : ∀ (n : Nat) (i : Int) (u : Option Value), i + n = v 18 → 0 ≤ i → ∀ (d : Nat) (K : zK), Ev (d + 5) 90 7 [some (.ref (b + 4)), some (.int (zi i)), u] [.int (zi (v 18)), .int (zi i)] M K = K (some (.int (zi (zb (zfor (okF (v 6) k s e R) n i true))))) M := by
  intro n
  obtain ⟨x1, x2, x3, x4, x5, x6, x7⟩ := x
  have e1 := s_itemOf x2 (by omega)
  have e2 := s_itemOf x3 (by omega)
  have e3 := s_itemOf x4 (by omega)
  have e4 := s_gapOver x6 x5 g
  have r := rv.2.2.1
  induction n with
  | zero =>
    intro i u hi h0 d K
    simp (disch := omega) only [zen_90, e_90_0, e_90_1, e_90_2, e_90_3, e_90_4, e_90_7t, e_90_7f, e_90_10, e_90_11, e_90_14, e_90_16, e_90_17, e_90_20, e_90_21, e_90_24, e_90_25, e_90_28, e_90_29, e_90_32, e_90_35, e_90_36, e_90_37, e_90_38, e_90_41, e_90_42, e_90_45, e_90_46, e_90_49, e_90_50t, e_90_50f, e_90_53, e_90_54, e_90_55, e_90_58, e_90_61, e_90_62, zgf_7_0, zgf_7_1, zgf_7_2, zgf_7_3, zgf_7_4, zPa_some, zPn_some, zRK_some, zRK_none, zCk_t, zis_ob, zget_set_eq, zget_set_ne, zAld_10, zAld_11, zAst_10, zAst_11, zAlen_10, zAlen_11, zbd_t, zbd_f, zb_t, zb_f, zset_set, s_one0, s_one1, zis_so, zfor_0]
  | succ n ih =>
    intro i u hi h0 d K
    have rr := rt i (by omega) (by omega)
    have rg := gp_rng (a := R 5 i) (t := R 6 i) g (r := 7) (by omega)
    rw [zfor_s]
    unfold okF
    rw [Bool.true_and]
    by_cases c : -1 ≤ gp (v 6) k s e 7 (R 5 i) (R 6 i) - R 7 i ∧ gp (v 6) k s e 7 (R 5 i) (R 6 i) - R 7 i ≤ 1
    · rw [decide_eq_true c]
      rw [show (fun (i : Int) (b : Bool) => b && decide (-1 ≤ gp (v 6) k s e 7 (R 5 i) (R 6 i) - R 7 i ∧ gp (v 6) k s e 7 (R 5 i) (R 6 i) - R 7 i ≤ 1)) = okF (v 6) k s e R from rfl]
      rw [← ih (i + 1) (some (.int (zi (gp (v 6) k s e 7 (R 5 i) (R 6 i))))) (by omega) (by omega) d K]
      by_cases c2 : gp (v 6) k s e 7 (R 5 i) (R 6 i) - R 7 i < 0
      · simp (disch := omega) only [zen_90, e_90_0, e_90_1, e_90_2, e_90_3, e_90_4, e_90_7t, e_90_7f, e_90_10, e_90_11, e_90_14, e_90_16, e_90_17, e_90_20, e_90_21, e_90_24, e_90_25, e_90_28, e_90_29, e_90_32, e_90_35, e_90_36, e_90_37, e_90_38, e_90_41, e_90_42, e_90_45, e_90_46, e_90_49, e_90_50t, e_90_50f, e_90_53, e_90_54, e_90_55, e_90_58, e_90_61, e_90_62, zgf_7_0, zgf_7_1, zgf_7_2, zgf_7_3, zgf_7_4, zPa_some, zPn_some, zRK_some, zRK_none, zCk_t, zis_ob, zget_set_eq, zget_set_ne, zAld_10, zAld_11, zAst_10, zAst_11, zAlen_10, zAlen_11, zbd_t, zbd_f, zb_t, zb_f, zset_set, s_one0, s_one1, zis_so, x1, x5, e1, e2, e3, e4, s_abs, c2, if_true]
      · simp (disch := omega) only [zen_90, e_90_0, e_90_1, e_90_2, e_90_3, e_90_4, e_90_7t, e_90_7f, e_90_10, e_90_11, e_90_14, e_90_16, e_90_17, e_90_20, e_90_21, e_90_24, e_90_25, e_90_28, e_90_29, e_90_32, e_90_35, e_90_36, e_90_37, e_90_38, e_90_41, e_90_42, e_90_45, e_90_46, e_90_49, e_90_50t, e_90_50f, e_90_53, e_90_54, e_90_55, e_90_58, e_90_61, e_90_62, zgf_7_0, zgf_7_1, zgf_7_2, zgf_7_3, zgf_7_4, zPa_some, zPn_some, zRK_some, zRK_none, zCk_t, zis_ob, zget_set_eq, zget_set_ne, zAld_10, zAld_11, zAst_10, zAst_11, zAlen_10, zAlen_11, zbd_t, zbd_f, zb_t, zb_f, zset_set, s_one0, s_one1, zis_so, x1, x5, e1, e2, e3, e4, s_abs, c2, if_false]
    · rw [decide_eq_false c]
      rw [show (fun (i : Int) (b : Bool) => b && decide (-1 ≤ gp (v 6) k s e 7 (R 5 i) (R 6 i) - R 7 i ∧ gp (v 6) k s e 7 (R 5 i) (R 6 i) - R 7 i ≤ 1)) = okF (v 6) k s e R from rfl, okF_false]
      by_cases c2 : gp (v 6) k s e 7 (R 5 i) (R 6 i) - R 7 i < 0
      · simp (disch := omega) only [zen_90, e_90_0, e_90_1, e_90_2, e_90_3, e_90_4, e_90_7t, e_90_7f, e_90_10, e_90_11, e_90_14, e_90_16, e_90_17, e_90_20, e_90_21, e_90_24, e_90_25, e_90_28, e_90_29, e_90_32, e_90_35, e_90_36, e_90_37, e_90_38, e_90_41, e_90_42, e_90_45, e_90_46, e_90_49, e_90_50t, e_90_50f, e_90_53, e_90_54, e_90_55, e_90_58, e_90_61, e_90_62, zgf_7_0, zgf_7_1, zgf_7_2, zgf_7_3, zgf_7_4, zPa_some, zPn_some, zRK_some, zRK_none, zCk_t, zis_ob, zget_set_eq, zget_set_ne, zAld_10, zAld_11, zAst_10, zAst_11, zAlen_10, zAlen_11, zbd_t, zbd_f, zb_t, zb_f, zset_set, s_one0, s_one1, zis_so, x1, x5, e1, e2, e3, e4, s_abs, c2, if_true]
      · simp (disch := omega) only [zen_90, e_90_0, e_90_1, e_90_2, e_90_3, e_90_4, e_90_7t, e_90_7f, e_90_10, e_90_11, e_90_14, e_90_16, e_90_17, e_90_20, e_90_21, e_90_24, e_90_25, e_90_28, e_90_29, e_90_32, e_90_35, e_90_36, e_90_37, e_90_38, e_90_41, e_90_42, e_90_45, e_90_46, e_90_49, e_90_50t, e_90_50f, e_90_53, e_90_54, e_90_55, e_90_58, e_90_61, e_90_62, zgf_7_0, zgf_7_1, zgf_7_2, zgf_7_3, zgf_7_4, zPa_some, zPn_some, zRK_some, zRK_none, zCk_t, zis_ob, zget_set_eq, zget_set_ne, zAld_10, zAld_11, zAst_10, zAst_11, zAlen_10, zAlen_11, zbd_t, zbd_f, zb_t, zb_f, zset_set, s_one0, s_one1, zis_so, x1, x5, e1, e2, e3, e4, s_abs, c2, if_false]
theorem s_areEx {i : Int} (x : TX b v R (hK i) (hZ i) (hD i) M) (rt : RT R) (rv : RV v) (hi : 0 ≤ i ∧ i < 961) : ∀ (d : Nat) (K : zK), zC (d + 6) 90 [.ref (b + 4)] M K = K (some (.int (zi (zb (gdI v R i))))) M := by
  intro d K
  have r := rv.2.2.1
  have x1 := x.1
  simp (disch := omega) only [zen_90, e_90_0, e_90_1, e_90_2, e_90_3, e_90_4, e_90_10, e_90_11, e_90_14, e_90_16, e_90_17, e_90_20, e_90_21, e_90_24, e_90_25, e_90_28, e_90_29, e_90_32, e_90_35, e_90_36, e_90_37, e_90_38, e_90_41, e_90_42, e_90_45, e_90_46, e_90_49, e_90_50t, e_90_50f, e_90_53, e_90_54, e_90_55, e_90_58, e_90_61, e_90_62, zgf_7_0, zgf_7_1, zgf_7_2, zgf_7_3, zgf_7_4, zPa_some, zPn_some, zRK_some, zRK_none, zCk_t, zis_ob, zget_set_eq, zget_set_ne, zAld_10, zAld_11, zAst_10, zAst_11, zAlen_10, zAlen_11, zbd_t, zbd_f, zb_t, zb_f, zset_set, s_one0, s_one1, zis_so, x1]
  exact l_90 x rt rv (hRv rv hi) (v 18).toNat 0 none (by omega) (by omega) d K
theorem s_becomeNumber (x : TX b v R k s e M) : ∀ (d : Nat) (i : Int) (K : zK), (0 ≤ i ∧ i < 961) → zC (d + 2) 23 [.ref (b + 8), .int (zi i)] M K = K none (zset M (b + 8) (zOb 2 [.int (zi (v 6)), .int (zi (hK i)), .int (zi (hZ i)), .int (zi (hD i))])) := by
  intro d i K hi
  have x5 := x.2.2.2.2.1
  unfold hK hZ hD
  by_cases c : i ≤ 0
  · rw [if_pos c, if_pos c, if_pos c]
    simp (disch := omega) only [zen_23, e_23_0, e_23_1t, e_23_1f, e_23_4, e_23_5, e_23_6, e_23_7, e_23_8, e_23_11, e_23_14, e_23_15, e_23_16, e_23_17, e_23_20, e_23_21, e_23_22, e_23_23, e_23_24, e_23_25, e_23_26, e_23_27, e_23_30, e_23_31, e_23_32, e_23_33, e_23_34, e_23_36, e_23_37, e_23_38, e_23_39, e_23_41, e_23_42, e_23_45, zen_22, e_22_0, e_22_1, e_22_2, e_22_5, e_22_6, e_22_7, e_22_10, e_22_11, e_22_12, e_22_15, zpf_2_1, zpf_2_2, zpf_2_3, zPa_some, zPn_some, zRK_some, zRK_none, zCk_t, zis_ob, zget_set_eq, zget_set_ne, zAld_10, zAld_11, zAst_10, zAst_11, zAlen_10, zAlen_11, zbd_t, zbd_f, zb_t, zb_f, zset_set, s_one0, s_one1, zis_so, x5]
  · rw [if_neg c, if_neg c, if_neg c]
    have d1 := zdiv_f (x := i - 1) (y := 480) (by omega)
    have d2 := zmod_f (x := i - 1) (y := 480) (by omega)
    have d3 := zdiv_f (x := (i - 1) % 480) (y := 24) (by omega)
    have d4 := zmod_f (x := (i - 1) % 480) (y := 24) (by omega)
    simp (disch := omega) only [zen_23, e_23_0, e_23_1t, e_23_1f, e_23_4, e_23_5, e_23_6, e_23_7, e_23_8, e_23_11, e_23_14, e_23_15, e_23_16, e_23_17, e_23_20, e_23_21, e_23_22, e_23_23, e_23_24, e_23_25, e_23_26, e_23_27, e_23_30, e_23_31, e_23_32, e_23_33, e_23_34, e_23_36, e_23_37, e_23_38, e_23_39, e_23_41, e_23_42, e_23_45, zen_22, e_22_0, e_22_1, e_22_2, e_22_5, e_22_6, e_22_7, e_22_10, e_22_11, e_22_12, e_22_15, zpf_2_1, zpf_2_2, zpf_2_3, zPa_some, zPn_some, zRK_some, zRK_none, zCk_t, zis_ob, zget_set_eq, zget_set_ne, zAld_10, zAld_11, zAst_10, zAst_11, zAlen_10, zAlen_11, zbd_t, zbd_f, zb_t, zb_f, zset_set, s_one0, s_one1, zis_so, x5, d1, d2, d3, d4]
theorem l_91 (rt : RT R) (rv : RV v) (wd : Int) : ∀ (n : Nat) (i f k s e : Int) (M : zM), TX b v R k s e M → i + n = 961 → 0 ≤ i → ∃ M', (∀ (d : Nat) (K : zK), Ev (d + 6) 91 16 [some (.ref (b + 4)), some (.int (zi wd)), some (.int (zi f)), some (.int (zi i))] [.int (zi 961), .int (zi i)] M K = K (some (.int (zi (exN v R n i f)))) M') ∧ (∃ k s e, TX b v R k s e M') ∧ zFr (b + 8) 1 M M' := by
  intro n
  induction n with
  | zero =>
    intro i f k s e M x hi h0
    refine ⟨M, fun d K => ?_, ⟨k, s, e, x⟩, zFr_refl⟩
    simp (disch := omega) only [zen_91, e_91_0, e_91_1, e_91_4, e_91_5, e_91_8, e_91_9, e_91_10, e_91_11, e_91_12, e_91_13, e_91_16t, e_91_16f, e_91_19, e_91_20, e_91_23, e_91_24, e_91_27, e_91_28, e_91_29, e_91_32, e_91_35, e_91_36, e_91_37, e_91_40, e_91_43, e_91_44, zgf_7_3, zpf_2_0, zPa_some, zPn_some, zRK_some, zRK_none, zCk_t, zis_ob, zget_set_eq, zget_set_ne, zAld_10, zAld_11, zAst_10, zAst_11, zAlen_10, zAlen_11, zbd_t, zbd_f, zb_t, zb_f, zset_set, s_one0, s_one1, zis_so]
    rfl
  | succ n ih =>
    intro i f k s e M x hi h0
    have y := TX_set (k' := hK i) (s' := hZ i) (e' := hD i) x
    obtain ⟨M', e1, e2, e3⟩ := ih (i + 1) (f + zb (gdI v R i)) _ _ _ _ y (by omega) (by omega)
    refine ⟨M', fun d K => ?_, e2, zFr_trans (zFr_set (by omega)) e3⟩
    have q1 := s_becomeNumber x
    have q2 := s_areEx y rt rv (by omega)
    have x1 := x.1
    have x5 := x.2.2.2.2.1
    have y1 := y.1
    rw [show exN v R (n + 1) i f = exN v R n (i + 1) (f + zb (gdI v R i)) from rfl, ← e1 d K]
    simp (disch := omega) only [zen_91, e_91_0, e_91_1, e_91_4, e_91_5, e_91_8, e_91_9, e_91_10, e_91_11, e_91_12, e_91_13, e_91_16t, e_91_16f, e_91_19, e_91_20, e_91_23, e_91_24, e_91_27, e_91_28, e_91_29, e_91_32, e_91_35, e_91_36, e_91_37, e_91_40, e_91_43, e_91_44, zgf_7_3, zpf_2_0, zPa_some, zPn_some, zRK_some, zRK_none, zCk_t, zis_ob, zget_set_eq, zget_set_ne, zAld_10, zAld_11, zAst_10, zAst_11, zAlen_10, zAlen_11, zbd_t, zbd_f, zb_t, zb_f, zset_set, s_one0, s_one1, zis_so, x1, x5, y1, q1, q2, s_oneIf]
theorem XT_TX (hS : SL M) (hA : M.1 < b ∨ b + 47 ≤ M.1) (x : XT b v R M) : ∃ u : Nat → Int, zget M (b + 8) = some (zOb 2 [.int (zi (u 0)), .int (zi (u 1)), .int (zi (u 2)), .int (zi (u 3))]) ∧ TX b v R (u 1) (u 2) (u 3) (zset M (b + 8) (zOb 2 [.int (zi (v 6)), .int (zi (u 1)), .int (zi (u 2)), .int (zi (u 3))])) := by
  obtain ⟨x1, x2, x3, x4, u, x5⟩ := x
  exact ⟨u, x5, (zget_set_ne (by omega)).trans x1, (zget_set_ne (by omega)).trans x2, (zget_set_ne (by omega)).trans x3, (zget_set_ne (by omega)).trans x4, zget_set_eq, SL_fr hS (zFr_set (lo := b + 8) (n := 1) (by omega)) (by omega), hA⟩
theorem TX_XT (x : TX b v R k s e M) : XT b v R M := ⟨x.1, x.2.1, x.2.2.1, x.2.2.2.1, fun j => if j = 0 then v 6 else if j = 1 then k else if j = 2 then s else e, x.2.2.2.2.1⟩
theorem x_explains (hS : SL M) (hA : M.1 < b ∨ b + 47 ≤ M.1) (x : XI b v F C G R D M) (ri : RI v G R D) : XCl b 9 119 [.ref b] (.int (zi (exN v R 961 0 0))) v F C G R D M := by
  obtain ⟨x1, x2, x3, x4, x5, x6, x7, x8⟩ := x
  obtain ⟨u, t5, y⟩ := XT_TX hS hA x5
  obtain ⟨M', e1, ⟨k, s, e, e2⟩, e3⟩ := l_91 ri.2.2.1 ri.1 (v 6) 961 0 0 _ _ _ _ y (by omega) (by omega)
  have f : zFr (b + 8) 1 M M' := zFr_trans (zFr_set (by omega)) e3
  refine ⟨M', fun d K => ?_, ⟨XO_fr x1 f (by omega), XS_fr x2 f (by omega), XH_fr x3 f (by omega), XG_fr x4 f (by omega), TX_XT e2, XR_fr x6 f (by omega), XM_fr x7 f (by omega), XP_fr x8 f (by omega)⟩, zFr_mono f (by omega)⟩
  have z0 := x1.1
  have z2 := x3
  have z4 := x5.1
  unfold XH at z2
  simp (disch := omega) only [zen_119, e_119_0, e_119_1, e_119_4, e_119_5, e_119_8, e_119_11, e_119_14, zgf_2_0, zgf_8_2, zgf_8_4, zen_91, e_91_0, e_91_1, e_91_4, e_91_5, e_91_8, e_91_9, e_91_10, e_91_11, e_91_12, e_91_13, e_91_19, e_91_20, e_91_23, e_91_24, e_91_27, e_91_28, e_91_29, e_91_32, e_91_35, e_91_36, e_91_37, e_91_40, e_91_43, e_91_44, zgf_7_3, zpf_2_0, zPa_some, zPn_some, zRK_some, zRK_none, zCk_t, zis_ob, zget_set_eq, zget_set_ne, zAld_10, zAld_11, zAst_10, zAst_11, zAlen_10, zAlen_11, zbd_t, zbd_f, zb_t, zb_f, zset_set, s_one0, s_one1, zis_so, z0, z2, z4, t5]
  rw [e1 (d + 1)]
  simp (disch := omega) only [zen_119, e_119_0, e_119_1, e_119_4, e_119_5, e_119_8, e_119_11, e_119_14, zgf_2_0, zgf_8_2, zgf_8_4, zPa_some, zPn_some, zRK_some, zRK_none, zCk_t, zis_ob, zget_set_eq, zget_set_ne, zAld_10, zAld_11, zAst_10, zAst_11, zAlen_10, zAlen_11, zbd_t, zbd_f, zb_t, zb_f, zset_set, s_one0, s_one1, zis_so]
theorem l_92 (rt : RT R) (rv : RV v) (q wd : Int) (hq : -2147483648 ≤ q ∧ q < 2147483648) : ∀ (n : Nat) (i f k s e : Int) (M : zM), TX b v R k s e M → i + n = 961 → 0 ≤ i → (0 ≤ f ∧ f ≤ i) → ∃ M', (∀ (d : Nat) (K : zK), Ev (d + 6) 92 18 [some (.ref (b + 4)), some (.int (zi q)), some (.int (zi wd)), some (.int (zi f)), some (.int (zi i))] [.int (zi 961), .int (zi i)] M K = K (some (.int (zi (exC v R q n i f)))) M') ∧ (∃ k s e, TX b v R k s e M') ∧ zFr (b + 8) 1 M M' := by
  intro n
  induction n with
  | zero =>
    intro i f k s e M x hi h0 hf
    refine ⟨M, fun d K => ?_, ⟨k, s, e, x⟩, zFr_refl⟩
    simp (disch := omega) only [zen_92, e_92_0, e_92_1, e_92_4, e_92_5, e_92_8, e_92_9, e_92_10, e_92_11, e_92_13, e_92_15, e_92_18t, e_92_18f, e_92_21, e_92_22, e_92_25, e_92_27, e_92_30, e_92_31, e_92_34t, e_92_34f, e_92_37, e_92_38, e_92_39t, e_92_39f, e_92_42, e_92_43, e_92_46, e_92_49, e_92_50, e_92_53, e_92_56, e_92_59, e_92_60, zgf_7_3, zpf_2_0, zPa_some, zPn_some, zRK_some, zRK_none, zCk_t, zis_ob, zget_set_eq, zget_set_ne, zAld_10, zAld_11, zAst_10, zAst_11, zAlen_10, zAlen_11, zbd_t, zbd_f, zb_t, zb_f, zset_set, s_one0, s_one1, zis_so]
    rfl
  | succ n ih =>
    intro i f k s e M x hi h0 hf
    have y := TX_set (k' := hK i) (s' := hZ i) (e' := hD i) x
    have q1 := s_becomeNumber x
    have q2 := s_areEx y rt rv (by omega)
    have x1 := x.1
    have x5 := x.2.2.2.2.1
    have y1 := y.1
    have y5 := y.2.2.2.2.1
    cases g : gdI v R i with
    | true =>
      by_cases c : f = q
      · refine ⟨_, fun d K => ?_, ⟨_, _, _, y⟩, zFr_set (by omega)⟩
        unfold exC
        rw [if_pos g, if_pos c]
        simp (disch := omega) only [zen_92, e_92_0, e_92_1, e_92_4, e_92_5, e_92_8, e_92_9, e_92_10, e_92_11, e_92_13, e_92_15, e_92_18t, e_92_18f, e_92_21, e_92_22, e_92_25, e_92_27, e_92_30, e_92_31, e_92_34t, e_92_34f, e_92_37, e_92_38, e_92_39t, e_92_39f, e_92_42, e_92_43, e_92_46, e_92_49, e_92_50, e_92_53, e_92_56, e_92_59, e_92_60, zgf_7_3, zpf_2_0, zen_24, e_24_0, e_24_3, e_24_4, e_24_7, e_24_8, e_24_10, e_24_11, e_24_14, e_24_15, e_24_16, e_24_17, e_24_20, e_24_21, zgf_2_1, zgf_2_2, zgf_2_3, zPa_some, zPn_some, zRK_some, zRK_none, zCk_t, zis_ob, zget_set_eq, zget_set_ne, zAld_10, zAld_11, zAst_10, zAst_11, zAlen_10, zAlen_11, zbd_t, zbd_f, zb_t, zb_f, zset_set, s_one0, s_one1, zis_so, x1, x5, y1, y5, q1, q2, g]
        rfl
      · obtain ⟨M', e1, e2, e3⟩ := ih (i + 1) (f + 1) _ _ _ _ y (by omega) (by omega) (by omega)
        refine ⟨M', fun d K => ?_, e2, zFr_trans (zFr_set (by omega)) e3⟩
        unfold exC
        rw [if_pos g, if_neg c, ← e1 d K]
        simp (disch := omega) only [zen_92, e_92_0, e_92_1, e_92_4, e_92_5, e_92_8, e_92_9, e_92_10, e_92_11, e_92_13, e_92_15, e_92_18t, e_92_18f, e_92_21, e_92_22, e_92_25, e_92_27, e_92_30, e_92_31, e_92_34t, e_92_34f, e_92_37, e_92_38, e_92_39t, e_92_39f, e_92_42, e_92_43, e_92_46, e_92_49, e_92_50, e_92_53, e_92_56, e_92_59, e_92_60, zgf_7_3, zpf_2_0, zPa_some, zPn_some, zRK_some, zRK_none, zCk_t, zis_ob, zget_set_eq, zget_set_ne, zAld_10, zAld_11, zAst_10, zAst_11, zAlen_10, zAlen_11, zbd_t, zbd_f, zb_t, zb_f, zset_set, s_one0, s_one1, zis_so, x1, x5, y1, q1, q2, g]
    | false =>
      obtain ⟨M', e1, e2, e3⟩ := ih (i + 1) f _ _ _ _ y (by omega) (by omega) (by omega)
      refine ⟨M', fun d K => ?_, e2, zFr_trans (zFr_set (by omega)) e3⟩
      unfold exC
      rw [if_neg (by rw [g]; decide), ← e1 d K]
      simp (disch := omega) only [zen_92, e_92_0, e_92_1, e_92_4, e_92_5, e_92_8, e_92_9, e_92_10, e_92_11, e_92_13, e_92_15, e_92_18t, e_92_18f, e_92_21, e_92_22, e_92_25, e_92_27, e_92_30, e_92_31, e_92_34t, e_92_34f, e_92_37, e_92_38, e_92_39t, e_92_39f, e_92_42, e_92_43, e_92_46, e_92_49, e_92_50, e_92_53, e_92_56, e_92_59, e_92_60, zgf_7_3, zpf_2_0, zPa_some, zPn_some, zRK_some, zRK_none, zCk_t, zis_ob, zget_set_eq, zget_set_ne, zAld_10, zAld_11, zAst_10, zAst_11, zAlen_10, zAlen_11, zbd_t, zbd_f, zb_t, zb_f, zset_set, s_one0, s_one1, zis_so, x1, x5, y1, q1, q2, g]
theorem x_explained (hS : SL M) (hA : M.1 < b ∨ b + 47 ≤ M.1) (x : XI b v F C G R D M) (ri : RI v G R D) (q : Int) (hq : -2147483648 ≤ q ∧ q < 2147483648) : XCl b 9 120 [.ref b, .int (zi q)] (.int (zi (exC v R q 961 0 0))) v F C G R D M := by
  obtain ⟨x1, x2, x3, x4, x5, x6, x7, x8⟩ := x
  obtain ⟨u, t5, y⟩ := XT_TX hS hA x5
  obtain ⟨M', e1, ⟨k, s, e, e2⟩, e3⟩ := l_92 ri.2.2.1 ri.1 q (v 6) hq 961 0 0 _ _ _ _ y (by omega) (by omega) (by omega)
  have f : zFr (b + 8) 1 M M' := zFr_trans (zFr_set (by omega)) e3
  refine ⟨M', fun d K => ?_, ⟨XO_fr x1 f (by omega), XS_fr x2 f (by omega), XH_fr x3 f (by omega), XG_fr x4 f (by omega), TX_XT e2, XR_fr x6 f (by omega), XM_fr x7 f (by omega), XP_fr x8 f (by omega)⟩, zFr_mono f (by omega)⟩
  have z0 := x1.1
  have z2 := x3
  have z4 := x5.1
  unfold XH at z2
  simp (disch := omega) only [zen_120, e_120_0, e_120_1, e_120_4, e_120_5, e_120_6, e_120_9, e_120_12, e_120_15, zgf_2_0, zgf_8_2, zgf_8_4, zen_92, e_92_0, e_92_1, e_92_4, e_92_5, e_92_8, e_92_9, e_92_10, e_92_11, e_92_13, e_92_15, e_92_21, e_92_22, e_92_25, e_92_27, e_92_30, e_92_31, e_92_34t, e_92_34f, e_92_37, e_92_38, e_92_39t, e_92_39f, e_92_42, e_92_43, e_92_46, e_92_49, e_92_50, e_92_53, e_92_56, e_92_59, e_92_60, zgf_7_3, zpf_2_0, zPa_some, zPn_some, zRK_some, zRK_none, zCk_t, zis_ob, zget_set_eq, zget_set_ne, zAld_10, zAld_11, zAst_10, zAst_11, zAlen_10, zAlen_11, zbd_t, zbd_f, zb_t, zb_f, zset_set, s_one0, s_one1, zis_so, z0, z2, z4, t5]
  rw [e1 (d + 1)]
  simp (disch := omega) only [zen_120, e_120_0, e_120_1, e_120_4, e_120_5, e_120_6, e_120_9, e_120_12, e_120_15, zgf_2_0, zgf_8_2, zgf_8_4, zPa_some, zPn_some, zRK_some, zRK_none, zCk_t, zis_ob, zget_set_eq, zget_set_ne, zAld_10, zAld_11, zAst_10, zAst_11, zAlen_10, zAlen_11, zbd_t, zbd_f, zb_t, zb_f, zset_set, s_one0, s_one1, zis_so]
/-! the reference -/
theorem zuN_zuN {v : Nat → Int} {k : Nat} {x y : Int} : zuN (zuN v k x) k y = zuN v k y := by
  funext j
  unfold zuN
  by_cases q : j = k
  · rw [if_pos q, if_pos q]
  · rw [if_neg q, if_neg q, if_neg q]
def EM (c : Nat) (w : Nat → Int) (R : Nat → Int → Int) (h : Int) (M : zM) : Prop := zget M c = some (zMo c (zuN w 22 h)) ∧ zget M (c + 5) = some (zA 10 12 (R 5)) ∧ zget M (c + 6) = some (zA 10 12 (R 6)) ∧ zget M (c + 7) = some (zA 10 12 (R 7))
theorem EM_set {h h' : Int} (x : EM c w R h M) : EM c w R h' (zset M c (zMo c (zuN w 22 h'))) := ⟨zget_set_eq, (zget_set_ne (by omega)).trans x.2.1, (zget_set_ne (by omega)).trans x.2.2.1, (zget_set_ne (by omega)).trans x.2.2.2⟩
theorem lm_192a {h : Int} (x : EM c w R h M) (ha : zAg w v) (rt : RT R) (rv : RV v) (q many i k s e : Int) (g : gRv (v 6) k s e) (u5 : Int) : ∀ (n : Nat) (j : Int) (t : Bool) (u : Option Value), j + n = v 18 → 0 ≤ j → ∃ u', ∀ (d : Nat) (K : zK), Ev (d + 4) 192 91 [some (.ref c), some (.int (zi q)), some (.int (zi many)), some (.int (zi i)), some (.int (zi k)), some (.int (zi u5)), some (.int (zi s)), some (.int (zi e)), some (.int (zi (zb t))), some (.int (zi j)), u] [.int (zi (v 18)), .int (zi j)] M K = Ev (d + 4) 192 161 [some (.ref c), some (.int (zi q)), some (.int (zi many)), some (.int (zi i)), some (.int (zi k)), some (.int (zi u5)), some (.int (zi s)), some (.int (zi e)), some (.int (zi (zb (zfor (okF (v 6) k s e R) n j t)))), some (.int (zi (v 18))), u'] [] M K := by
  intro n
  obtain ⟨x1, x2, x3, x4⟩ := x
  have e1 := s_gapBy x1
  rw [show zuN w 22 h 6 = w 6 from rfl, ha 6 (by omega)] at e1
  have r := rv.2.2.1
  have a18 : w 18 = v 18 := ha 18 (by omega)
  induction n with
  | zero =>
    intro j t u hj h0
    refine ⟨u, fun d K => ?_⟩
    obtain rfl : j = v 18 := by omega
    simp (disch := omega) only [zgm_0, zgm_1, zgm_2, zgm_3, zgm_4, zgm_5, zgm_6, zgm_7, zgm_8, zgm_9, zgm_10, zgm_11, zgm_12, zgm_13, zgm_14, zgm_15, zgm_16, zgm_17, zgm_18, zgm_19, zgm_20, zgm_21, zgm_22, zgm_23, zgm_24, zgm_25, zgm_26, zgm_27, zgm_28, zgm_29, zgm_30, zgm_31, zgm_32, zgm_33, zgm_34, zgm_35, zgm_36, zgm_37, zpm_4, zpm_5, zpm_6, zpm_7, zpm_8, zpm_9, zpm_10, zpm_11, zpm_12, zpm_13, zpm_14, zpm_15, zpm_16, zpm_17, zpm_18, zpm_22, zpm_23, zpm_31, zpm_32, zpm_36, zis_mo, zuN_eq, zuN_ne, zen_192, e_192_0, e_192_1, e_192_2, e_192_3, e_192_4, e_192_7, e_192_8, e_192_9, e_192_10, e_192_13t, e_192_13f, e_192_16, e_192_17t, e_192_17f, e_192_20, e_192_21, e_192_24, e_192_25, e_192_28t, e_192_28f, e_192_31, e_192_32, e_192_35, e_192_36, e_192_38, e_192_39t, e_192_39f, e_192_42, e_192_43, e_192_46, e_192_47, e_192_48, e_192_49, e_192_52, e_192_53, e_192_55, e_192_56t, e_192_56f, e_192_59, e_192_60, e_192_63, e_192_64, e_192_66, e_192_68, e_192_69, e_192_70, e_192_72, e_192_74, e_192_76, e_192_77, e_192_79, e_192_80, e_192_82, e_192_83, e_192_85, e_192_87, e_192_88, e_192_91t, e_192_91f, e_192_94, e_192_95, e_192_97, e_192_99, e_192_101, e_192_103, e_192_104, e_192_107, e_192_109, e_192_110, e_192_111, e_192_114, e_192_116, e_192_117, e_192_120, e_192_121, e_192_124, e_192_126, e_192_127, e_192_128, e_192_130, e_192_132t, e_192_132f, e_192_135, e_192_137, e_192_138, e_192_141, e_192_142, e_192_145t, e_192_145f, e_192_148, e_192_149, e_192_152, e_192_153, e_192_155, e_192_158, e_192_163t, e_192_163f, e_192_166, e_192_167, e_192_168, e_192_169t, e_192_169f, e_192_172, e_192_175, e_192_177, e_192_178, e_192_180, e_192_182, e_192_183, e_192_184, e_192_186, e_192_187, e_192_190, e_192_191, e_192_194, e_192_197, e_192_200, e_192_203, e_192_206, e_192_207, zPa_some, zPn_some, zRK_some, zRK_none, zCk_t, zis_ob, zget_set_eq, zget_set_ne, zAld_10, zAld_11, zAst_10, zAst_11, zAlen_10, zAlen_11, zbd_t, zbd_f, zb_t, zb_f, zset_set, s_one0, s_one1, zis_so, zfor_0]
  | succ n ih =>
    intro j t u hj h0
    have rr := rt j (by omega) (by omega)
    have rg := gp_rng (a := R 5 j) (t := R 6 j) g (r := 7) (by omega)
    obtain ⟨u', hu⟩ := ih (j + 1) (okF (v 6) k s e R j t) (some (.int (zi (gp (v 6) k s e 7 (R 5 j) (R 6 j) - R 7 j)))) (by omega) (by omega)
    refine ⟨u', fun d K => ?_⟩
    have e2 : ∀ (d : Nat) (K : zK), zC (d + 3) 176 [.ref c, .int (zi k), .int (zi s), .int (zi e), .int (zi 7), .int (zi (R 5 j)), .int (zi (R 6 j))] M K = K (some (.int (zi (gp (v 6) k s e 7 (R 5 j) (R 6 j))))) M := fun d K => e1 d k s e 7 (R 5 j) (R 6 j) K ⟨g, by omega, by omega, by omega, by omega, by omega, by omega⟩
    rw [zfor_s, ← hu d K]
    unfold okF
    cases t with
    | false => simp (disch := omega) only [zgm_0, zgm_1, zgm_2, zgm_3, zgm_4, zgm_5, zgm_6, zgm_7, zgm_8, zgm_9, zgm_10, zgm_11, zgm_12, zgm_13, zgm_14, zgm_15, zgm_16, zgm_17, zgm_18, zgm_19, zgm_20, zgm_21, zgm_22, zgm_23, zgm_24, zgm_25, zgm_26, zgm_27, zgm_28, zgm_29, zgm_30, zgm_31, zgm_32, zgm_33, zgm_34, zgm_35, zgm_36, zgm_37, zpm_4, zpm_5, zpm_6, zpm_7, zpm_8, zpm_9, zpm_10, zpm_11, zpm_12, zpm_13, zpm_14, zpm_15, zpm_16, zpm_17, zpm_18, zpm_22, zpm_23, zpm_31, zpm_32, zpm_36, zis_mo, zuN_eq, zuN_ne, zen_192, e_192_0, e_192_1, e_192_2, e_192_3, e_192_4, e_192_7, e_192_8, e_192_9, e_192_10, e_192_13t, e_192_13f, e_192_16, e_192_17t, e_192_17f, e_192_20, e_192_21, e_192_24, e_192_25, e_192_28t, e_192_28f, e_192_31, e_192_32, e_192_35, e_192_36, e_192_38, e_192_39t, e_192_39f, e_192_42, e_192_43, e_192_46, e_192_47, e_192_48, e_192_49, e_192_52, e_192_53, e_192_55, e_192_56t, e_192_56f, e_192_59, e_192_60, e_192_63, e_192_64, e_192_66, e_192_68, e_192_69, e_192_70, e_192_72, e_192_74, e_192_76, e_192_77, e_192_79, e_192_80, e_192_82, e_192_83, e_192_85, e_192_87, e_192_88, e_192_91t, e_192_91f, e_192_94, e_192_95, e_192_97, e_192_99, e_192_101, e_192_103, e_192_104, e_192_107, e_192_109, e_192_110, e_192_111, e_192_114, e_192_116, e_192_117, e_192_120, e_192_121, e_192_124, e_192_126, e_192_127, e_192_128, e_192_130, e_192_132t, e_192_132f, e_192_135, e_192_137, e_192_138, e_192_141, e_192_142, e_192_145t, e_192_145f, e_192_148, e_192_149, e_192_152, e_192_153, e_192_155, e_192_158, e_192_163t, e_192_163f, e_192_166, e_192_167, e_192_168, e_192_169t, e_192_169f, e_192_172, e_192_175, e_192_177, e_192_178, e_192_180, e_192_182, e_192_183, e_192_184, e_192_186, e_192_187, e_192_190, e_192_191, e_192_194, e_192_197, e_192_200, e_192_203, e_192_206, e_192_207, zPa_some, zPn_some, zRK_some, zRK_none, zCk_t, zis_ob, zget_set_eq, zget_set_ne, zAld_10, zAld_11, zAst_10, zAst_11, zAlen_10, zAlen_11, zbd_t, zbd_f, zb_t, zb_f, zset_set, s_one0, s_one1, zis_so, x1, x2, x3, x4, a18, e2, Bool.false_and]
    | true =>
      rw [Bool.true_and]
      by_cases c1 : -1 ≤ gp (v 6) k s e 7 (R 5 j) (R 6 j) - R 7 j ∧ gp (v 6) k s e 7 (R 5 j) (R 6 j) - R 7 j ≤ 1
      · rw [decide_eq_true c1]
        simp (disch := omega) only [zgm_0, zgm_1, zgm_2, zgm_3, zgm_4, zgm_5, zgm_6, zgm_7, zgm_8, zgm_9, zgm_10, zgm_11, zgm_12, zgm_13, zgm_14, zgm_15, zgm_16, zgm_17, zgm_18, zgm_19, zgm_20, zgm_21, zgm_22, zgm_23, zgm_24, zgm_25, zgm_26, zgm_27, zgm_28, zgm_29, zgm_30, zgm_31, zgm_32, zgm_33, zgm_34, zgm_35, zgm_36, zgm_37, zpm_4, zpm_5, zpm_6, zpm_7, zpm_8, zpm_9, zpm_10, zpm_11, zpm_12, zpm_13, zpm_14, zpm_15, zpm_16, zpm_17, zpm_18, zpm_22, zpm_23, zpm_31, zpm_32, zpm_36, zis_mo, zuN_eq, zuN_ne, zen_192, e_192_0, e_192_1, e_192_2, e_192_3, e_192_4, e_192_7, e_192_8, e_192_9, e_192_10, e_192_13t, e_192_13f, e_192_16, e_192_17t, e_192_17f, e_192_20, e_192_21, e_192_24, e_192_25, e_192_28t, e_192_28f, e_192_31, e_192_32, e_192_35, e_192_36, e_192_38, e_192_39t, e_192_39f, e_192_42, e_192_43, e_192_46, e_192_47, e_192_48, e_192_49, e_192_52, e_192_53, e_192_55, e_192_56t, e_192_56f, e_192_59, e_192_60, e_192_63, e_192_64, e_192_66, e_192_68, e_192_69, e_192_70, e_192_72, e_192_74, e_192_76, e_192_77, e_192_79, e_192_80, e_192_82, e_192_83, e_192_85, e_192_87, e_192_88, e_192_91t, e_192_91f, e_192_94, e_192_95, e_192_97, e_192_99, e_192_101, e_192_103, e_192_104, e_192_107, e_192_109, e_192_110, e_192_111, e_192_114, e_192_116, e_192_117, e_192_120, e_192_121, e_192_124, e_192_126, e_192_127, e_192_128, e_192_130, e_192_132t, e_192_132f, e_192_135, e_192_137, e_192_138, e_192_141, e_192_142, e_192_145t, e_192_145f, e_192_148, e_192_149, e_192_152, e_192_153, e_192_155, e_192_158, e_192_163t, e_192_163f, e_192_166, e_192_167, e_192_168, e_192_169t, e_192_169f, e_192_172, e_192_175, e_192_177, e_192_178, e_192_180, e_192_182, e_192_183, e_192_184, e_192_186, e_192_187, e_192_190, e_192_191, e_192_194, e_192_197, e_192_200, e_192_203, e_192_206, e_192_207, zPa_some, zPn_some, zRK_some, zRK_none, zCk_t, zis_ob, zget_set_eq, zget_set_ne, zAld_10, zAld_11, zAst_10, zAst_11, zAlen_10, zAlen_11, zbd_t, zbd_f, zb_t, zb_f, zset_set, s_one0, s_one1, zis_so, x1, x2, x3, x4, a18, e2, s_in]
      · rw [decide_eq_false c1]
        simp (disch := omega) only [zgm_0, zgm_1, zgm_2, zgm_3, zgm_4, zgm_5, zgm_6, zgm_7, zgm_8, zgm_9, zgm_10, zgm_11, zgm_12, zgm_13, zgm_14, zgm_15, zgm_16, zgm_17, zgm_18, zgm_19, zgm_20, zgm_21, zgm_22, zgm_23, zgm_24, zgm_25, zgm_26, zgm_27, zgm_28, zgm_29, zgm_30, zgm_31, zgm_32, zgm_33, zgm_34, zgm_35, zgm_36, zgm_37, zpm_4, zpm_5, zpm_6, zpm_7, zpm_8, zpm_9, zpm_10, zpm_11, zpm_12, zpm_13, zpm_14, zpm_15, zpm_16, zpm_17, zpm_18, zpm_22, zpm_23, zpm_31, zpm_32, zpm_36, zis_mo, zuN_eq, zuN_ne, zen_192, e_192_0, e_192_1, e_192_2, e_192_3, e_192_4, e_192_7, e_192_8, e_192_9, e_192_10, e_192_13t, e_192_13f, e_192_16, e_192_17t, e_192_17f, e_192_20, e_192_21, e_192_24, e_192_25, e_192_28t, e_192_28f, e_192_31, e_192_32, e_192_35, e_192_36, e_192_38, e_192_39t, e_192_39f, e_192_42, e_192_43, e_192_46, e_192_47, e_192_48, e_192_49, e_192_52, e_192_53, e_192_55, e_192_56t, e_192_56f, e_192_59, e_192_60, e_192_63, e_192_64, e_192_66, e_192_68, e_192_69, e_192_70, e_192_72, e_192_74, e_192_76, e_192_77, e_192_79, e_192_80, e_192_82, e_192_83, e_192_85, e_192_87, e_192_88, e_192_91t, e_192_91f, e_192_94, e_192_95, e_192_97, e_192_99, e_192_101, e_192_103, e_192_104, e_192_107, e_192_109, e_192_110, e_192_111, e_192_114, e_192_116, e_192_117, e_192_120, e_192_121, e_192_124, e_192_126, e_192_127, e_192_128, e_192_130, e_192_132t, e_192_132f, e_192_135, e_192_137, e_192_138, e_192_141, e_192_142, e_192_145t, e_192_145f, e_192_148, e_192_149, e_192_152, e_192_153, e_192_155, e_192_158, e_192_163t, e_192_163f, e_192_166, e_192_167, e_192_168, e_192_169t, e_192_169f, e_192_172, e_192_175, e_192_177, e_192_178, e_192_180, e_192_182, e_192_183, e_192_184, e_192_186, e_192_187, e_192_190, e_192_191, e_192_194, e_192_197, e_192_200, e_192_203, e_192_206, e_192_207, zPa_some, zPn_some, zRK_some, zRK_none, zCk_t, zis_ob, zget_set_eq, zget_set_ne, zAld_10, zAld_11, zAst_10, zAst_11, zAlen_10, zAlen_11, zbd_t, zbd_f, zb_t, zb_f, zset_set, s_one0, s_one1, zis_so, x1, x2, x3, x4, a18, e2, s_in]
theorem lm_192h {h : Int} (x : EM c w R h M) (ha : zAg w v) (rt : RT R) (rv : RV v) (q many i : Int) (hi : 0 ≤ i ∧ i < 961) (u4 u5 u6 u7 u8 u9 u10 : Option Value) : ∃ l4 l5 l6 l7 l9 u', ∀ (d : Nat) (K : zK), Ev (d + 4) 192 16 [some (.ref c), some (.int (zi q)), some (.int (zi many)), some (.int (zi i)), u4, u5, u6, u7, u8, u9, u10] [] M K = Ev (d + 4) 192 161 [some (.ref c), some (.int (zi q)), some (.int (zi many)), some (.int (zi i)), some (.int (zi l4)), some (.int (zi l5)), some (.int (zi l6)), some (.int (zi l7)), some (.int (zi (zb (gdI v R i)))), some (.int (zi l9)), u'] [] M K ∧ l4 = hK i ∧ l6 = hZ i ∧ l7 = hD i := by
  have x1 := x.1
  have r := rv.2.2.1
  have a18 : w 18 = v 18 := ha 18 (by omega)
  obtain ⟨u', hu⟩ := lm_192a x ha rt rv q many i (hK i) (hZ i) (hD i) (hRv rv hi) (if i ≤ 0 then 0 else (i - 1) % 480) (v 18).toNat 0 true u10 (by omega) (by omega)
  refine ⟨hK i, if i ≤ 0 then 0 else (i - 1) % 480, hZ i, hD i, v 18, u', fun d K => ⟨?_, rfl, rfl, rfl⟩⟩
  have hu2 := hu d K
  rw [show zb true = 1 from rfl, show zfor (okF (v 6) (hK i) (hZ i) (hD i) R) (v 18).toNat 0 true = gdI v R i from rfl] at hu2
  refine Eq.trans ?_ hu2
  have d1 := zmod_f (x := i - 1) (y := 480)
  unfold hK hZ hD
  by_cases c0 : i ≤ 0
  · rw [if_pos c0, if_pos c0, if_pos c0, if_pos c0]
    have d4 := zmod_f (x := 0) (y := 24) (by omega)
    simp (disch := omega) only [zgm_0, zgm_1, zgm_2, zgm_3, zgm_4, zgm_5, zgm_6, zgm_7, zgm_8, zgm_9, zgm_10, zgm_11, zgm_12, zgm_13, zgm_14, zgm_15, zgm_16, zgm_17, zgm_18, zgm_19, zgm_20, zgm_21, zgm_22, zgm_23, zgm_24, zgm_25, zgm_26, zgm_27, zgm_28, zgm_29, zgm_30, zgm_31, zgm_32, zgm_33, zgm_34, zgm_35, zgm_36, zgm_37, zpm_4, zpm_5, zpm_6, zpm_7, zpm_8, zpm_9, zpm_10, zpm_11, zpm_12, zpm_13, zpm_14, zpm_15, zpm_16, zpm_17, zpm_18, zpm_22, zpm_23, zpm_31, zpm_32, zpm_36, zis_mo, zuN_eq, zuN_ne, zen_192, e_192_0, e_192_1, e_192_2, e_192_3, e_192_4, e_192_7, e_192_8, e_192_9, e_192_10, e_192_13t, e_192_13f, e_192_16, e_192_17t, e_192_17f, e_192_20, e_192_21, e_192_24, e_192_25, e_192_28t, e_192_28f, e_192_31, e_192_32, e_192_35, e_192_36, e_192_38, e_192_39t, e_192_39f, e_192_42, e_192_43, e_192_46, e_192_47, e_192_48, e_192_49, e_192_52, e_192_53, e_192_55, e_192_56t, e_192_56f, e_192_59, e_192_60, e_192_63, e_192_64, e_192_66, e_192_68, e_192_69, e_192_70, e_192_72, e_192_74, e_192_76, e_192_77, e_192_79, e_192_80, e_192_82, e_192_83, e_192_85, e_192_87, e_192_88, e_192_94, e_192_95, e_192_97, e_192_99, e_192_101, e_192_103, e_192_104, e_192_107, e_192_109, e_192_110, e_192_111, e_192_114, e_192_116, e_192_117, e_192_120, e_192_121, e_192_124, e_192_126, e_192_127, e_192_128, e_192_130, e_192_132t, e_192_132f, e_192_135, e_192_137, e_192_138, e_192_141, e_192_142, e_192_145t, e_192_145f, e_192_148, e_192_149, e_192_152, e_192_153, e_192_155, e_192_158, e_192_163t, e_192_163f, e_192_166, e_192_167, e_192_168, e_192_169t, e_192_169f, e_192_172, e_192_175, e_192_177, e_192_178, e_192_180, e_192_182, e_192_183, e_192_184, e_192_186, e_192_187, e_192_190, e_192_191, e_192_194, e_192_197, e_192_200, e_192_203, e_192_206, e_192_207, zPa_some, zPn_some, zRK_some, zRK_none, zCk_t, zis_ob, zget_set_eq, zget_set_ne, zAld_10, zAld_11, zAst_10, zAst_11, zAlen_10, zAlen_11, zbd_t, zbd_f, zb_t, zb_f, zset_set, s_one0, s_one1, zis_so, x1, a18, d4, show (0 : Int) % 24 = 0 from rfl]
  · rw [if_neg c0, if_neg c0, if_neg c0, if_neg c0]
    have d2 := zmod_f (x := i - 1) (y := 480) (by omega)
    have d3 := zdiv_f (x := (i - 1) % 480) (y := 24) (by omega)
    have d4 := zmod_f (x := (i - 1) % 480) (y := 24) (by omega)
    by_cases c1 : i < 481
    · rw [show 1 + (i - 1) / 480 = 1 by omega]
      simp (disch := omega) only [zgm_0, zgm_1, zgm_2, zgm_3, zgm_4, zgm_5, zgm_6, zgm_7, zgm_8, zgm_9, zgm_10, zgm_11, zgm_12, zgm_13, zgm_14, zgm_15, zgm_16, zgm_17, zgm_18, zgm_19, zgm_20, zgm_21, zgm_22, zgm_23, zgm_24, zgm_25, zgm_26, zgm_27, zgm_28, zgm_29, zgm_30, zgm_31, zgm_32, zgm_33, zgm_34, zgm_35, zgm_36, zgm_37, zpm_4, zpm_5, zpm_6, zpm_7, zpm_8, zpm_9, zpm_10, zpm_11, zpm_12, zpm_13, zpm_14, zpm_15, zpm_16, zpm_17, zpm_18, zpm_22, zpm_23, zpm_31, zpm_32, zpm_36, zis_mo, zuN_eq, zuN_ne, zen_192, e_192_0, e_192_1, e_192_2, e_192_3, e_192_4, e_192_7, e_192_8, e_192_9, e_192_10, e_192_13t, e_192_13f, e_192_16, e_192_17t, e_192_17f, e_192_20, e_192_21, e_192_24, e_192_25, e_192_28t, e_192_28f, e_192_31, e_192_32, e_192_35, e_192_36, e_192_38, e_192_39t, e_192_39f, e_192_42, e_192_43, e_192_46, e_192_47, e_192_48, e_192_49, e_192_52, e_192_53, e_192_55, e_192_56t, e_192_56f, e_192_59, e_192_60, e_192_63, e_192_64, e_192_66, e_192_68, e_192_69, e_192_70, e_192_72, e_192_74, e_192_76, e_192_77, e_192_79, e_192_80, e_192_82, e_192_83, e_192_85, e_192_87, e_192_88, e_192_94, e_192_95, e_192_97, e_192_99, e_192_101, e_192_103, e_192_104, e_192_107, e_192_109, e_192_110, e_192_111, e_192_114, e_192_116, e_192_117, e_192_120, e_192_121, e_192_124, e_192_126, e_192_127, e_192_128, e_192_130, e_192_132t, e_192_132f, e_192_135, e_192_137, e_192_138, e_192_141, e_192_142, e_192_145t, e_192_145f, e_192_148, e_192_149, e_192_152, e_192_153, e_192_155, e_192_158, e_192_163t, e_192_163f, e_192_166, e_192_167, e_192_168, e_192_169t, e_192_169f, e_192_172, e_192_175, e_192_177, e_192_178, e_192_180, e_192_182, e_192_183, e_192_184, e_192_186, e_192_187, e_192_190, e_192_191, e_192_194, e_192_197, e_192_200, e_192_203, e_192_206, e_192_207, zPa_some, zPn_some, zRK_some, zRK_none, zCk_t, zis_ob, zget_set_eq, zget_set_ne, zAld_10, zAld_11, zAst_10, zAst_11, zAlen_10, zAlen_11, zbd_t, zbd_f, zb_t, zb_f, zset_set, s_one0, s_one1, zis_so, x1, a18, d2, d3, d4]
    · rw [show 1 + (i - 1) / 480 = 2 by omega]
      simp (disch := omega) only [zgm_0, zgm_1, zgm_2, zgm_3, zgm_4, zgm_5, zgm_6, zgm_7, zgm_8, zgm_9, zgm_10, zgm_11, zgm_12, zgm_13, zgm_14, zgm_15, zgm_16, zgm_17, zgm_18, zgm_19, zgm_20, zgm_21, zgm_22, zgm_23, zgm_24, zgm_25, zgm_26, zgm_27, zgm_28, zgm_29, zgm_30, zgm_31, zgm_32, zgm_33, zgm_34, zgm_35, zgm_36, zgm_37, zpm_4, zpm_5, zpm_6, zpm_7, zpm_8, zpm_9, zpm_10, zpm_11, zpm_12, zpm_13, zpm_14, zpm_15, zpm_16, zpm_17, zpm_18, zpm_22, zpm_23, zpm_31, zpm_32, zpm_36, zis_mo, zuN_eq, zuN_ne, zen_192, e_192_0, e_192_1, e_192_2, e_192_3, e_192_4, e_192_7, e_192_8, e_192_9, e_192_10, e_192_13t, e_192_13f, e_192_16, e_192_17t, e_192_17f, e_192_20, e_192_21, e_192_24, e_192_25, e_192_28t, e_192_28f, e_192_31, e_192_32, e_192_35, e_192_36, e_192_38, e_192_39t, e_192_39f, e_192_42, e_192_43, e_192_46, e_192_47, e_192_48, e_192_49, e_192_52, e_192_53, e_192_55, e_192_56t, e_192_56f, e_192_59, e_192_60, e_192_63, e_192_64, e_192_66, e_192_68, e_192_69, e_192_70, e_192_72, e_192_74, e_192_76, e_192_77, e_192_79, e_192_80, e_192_82, e_192_83, e_192_85, e_192_87, e_192_88, e_192_94, e_192_95, e_192_97, e_192_99, e_192_101, e_192_103, e_192_104, e_192_107, e_192_109, e_192_110, e_192_111, e_192_114, e_192_116, e_192_117, e_192_120, e_192_121, e_192_124, e_192_126, e_192_127, e_192_128, e_192_130, e_192_132t, e_192_132f, e_192_135, e_192_137, e_192_138, e_192_141, e_192_142, e_192_145t, e_192_145f, e_192_148, e_192_149, e_192_152, e_192_153, e_192_155, e_192_158, e_192_163t, e_192_163f, e_192_166, e_192_167, e_192_168, e_192_169t, e_192_169f, e_192_172, e_192_175, e_192_177, e_192_178, e_192_180, e_192_182, e_192_183, e_192_184, e_192_186, e_192_187, e_192_190, e_192_191, e_192_194, e_192_197, e_192_200, e_192_203, e_192_206, e_192_207, zPa_some, zPn_some, zRK_some, zRK_none, zCk_t, zis_ob, zget_set_eq, zget_set_ne, zAld_10, zAld_11, zAst_10, zAst_11, zAlen_10, zAlen_11, zbd_t, zbd_f, zb_t, zb_f, zset_set, s_one0, s_one1, zis_so, x1, a18, d2, d3, d4]
theorem lm_192 (ha : zAg w v) (rt : RT R) (rv : RV v) (q : Int) (hq : -2147483648 ≤ q ∧ q < 2147483648) : ∀ (n : Nat) (i : Int) (p : Int × Int) (M : zM) (u4 u5 u6 u7 u8 u9 u10 : Option Value), EM c w R p.2 M → i + n = 961 → 0 ≤ i → (0 ≤ p.1 ∧ p.1 ≤ i) → ∀ (d : Nat) (K : zK), Ev (d + 4) 192 13 [some (.ref c), some (.int (zi q)), some (.int (zi (p.1))), some (.int (zi i)), u4, u5, u6, u7, u8, u9, u10] [.int (zi 961), .int (zi i)] M K = K (some (.int (zi (zfor (exP v R q) n i p).1))) (zset M c (zMo c (zuN w 22 (zfor (exP v R q) n i p).2))) := by
  intro n
  induction n with
  | zero =>
    intro i p M u4 u5 u6 u7 u8 u9 u10 x hi h0 hp d K
    have x1 := x.1
    rw [zfor_0, zset_same x1]
    simp (disch := omega) only [zgm_0, zgm_1, zgm_2, zgm_3, zgm_4, zgm_5, zgm_6, zgm_7, zgm_8, zgm_9, zgm_10, zgm_11, zgm_12, zgm_13, zgm_14, zgm_15, zgm_16, zgm_17, zgm_18, zgm_19, zgm_20, zgm_21, zgm_22, zgm_23, zgm_24, zgm_25, zgm_26, zgm_27, zgm_28, zgm_29, zgm_30, zgm_31, zgm_32, zgm_33, zgm_34, zgm_35, zgm_36, zgm_37, zpm_4, zpm_5, zpm_6, zpm_7, zpm_8, zpm_9, zpm_10, zpm_11, zpm_12, zpm_13, zpm_14, zpm_15, zpm_16, zpm_17, zpm_18, zpm_22, zpm_23, zpm_31, zpm_32, zpm_36, zis_mo, zuN_eq, zuN_ne, zen_192, e_192_0, e_192_1, e_192_2, e_192_3, e_192_4, e_192_7, e_192_8, e_192_9, e_192_10, e_192_13t, e_192_13f, e_192_17t, e_192_17f, e_192_20, e_192_21, e_192_24, e_192_25, e_192_28t, e_192_28f, e_192_31, e_192_32, e_192_35, e_192_36, e_192_38, e_192_39t, e_192_39f, e_192_42, e_192_43, e_192_46, e_192_47, e_192_48, e_192_49, e_192_52, e_192_53, e_192_55, e_192_56t, e_192_56f, e_192_59, e_192_60, e_192_63, e_192_64, e_192_66, e_192_68, e_192_69, e_192_70, e_192_72, e_192_74, e_192_76, e_192_77, e_192_79, e_192_80, e_192_82, e_192_83, e_192_85, e_192_87, e_192_88, e_192_91t, e_192_91f, e_192_94, e_192_95, e_192_97, e_192_99, e_192_101, e_192_103, e_192_104, e_192_107, e_192_109, e_192_110, e_192_111, e_192_114, e_192_116, e_192_117, e_192_120, e_192_121, e_192_124, e_192_126, e_192_127, e_192_128, e_192_130, e_192_132t, e_192_132f, e_192_135, e_192_137, e_192_138, e_192_141, e_192_142, e_192_145t, e_192_145f, e_192_148, e_192_149, e_192_152, e_192_153, e_192_155, e_192_158, e_192_161, e_192_163t, e_192_163f, e_192_166, e_192_167, e_192_168, e_192_169t, e_192_169f, e_192_172, e_192_175, e_192_177, e_192_178, e_192_180, e_192_182, e_192_183, e_192_184, e_192_186, e_192_187, e_192_190, e_192_191, e_192_194, e_192_197, e_192_200, e_192_203, e_192_206, e_192_207, zPa_some, zPn_some, zRK_some, zRK_none, zCk_t, zis_ob, zget_set_eq, zget_set_ne, zAld_10, zAld_11, zAst_10, zAst_11, zAlen_10, zAlen_11, zbd_t, zbd_f, zb_t, zb_f, zset_set, s_one0, s_one1, zis_so]
  | succ n ih =>
    intro i p M u4 u5 u6 u7 u8 u9 u10 x hi h0 hp d K
    obtain ⟨l4, l5, l6, l7, l9, u', hl⟩ := lm_192h x ha rt rv q p.1 i (by omega) u4 u5 u6 u7 u8 u9 u10
    obtain ⟨hl, e4, e6, e7⟩ := hl d K
    have x1 := x.1
    rw [zfor_s]
    simp (disch := omega) only [zgm_0, zgm_1, zgm_2, zgm_3, zgm_4, zgm_5, zgm_6, zgm_7, zgm_8, zgm_9, zgm_10, zgm_11, zgm_12, zgm_13, zgm_14, zgm_15, zgm_16, zgm_17, zgm_18, zgm_19, zgm_20, zgm_21, zgm_22, zgm_23, zgm_24, zgm_25, zgm_26, zgm_27, zgm_28, zgm_29, zgm_30, zgm_31, zgm_32, zgm_33, zgm_34, zgm_35, zgm_36, zgm_37, zpm_4, zpm_5, zpm_6, zpm_7, zpm_8, zpm_9, zpm_10, zpm_11, zpm_12, zpm_13, zpm_14, zpm_15, zpm_16, zpm_17, zpm_18, zpm_22, zpm_23, zpm_31, zpm_32, zpm_36, zis_mo, zuN_eq, zuN_ne, zen_192, e_192_0, e_192_1, e_192_2, e_192_3, e_192_4, e_192_7, e_192_8, e_192_9, e_192_10, e_192_13t, e_192_13f, e_192_17t, e_192_17f, e_192_20, e_192_21, e_192_24, e_192_25, e_192_28t, e_192_28f, e_192_31, e_192_32, e_192_35, e_192_36, e_192_38, e_192_39t, e_192_39f, e_192_42, e_192_43, e_192_46, e_192_47, e_192_48, e_192_49, e_192_52, e_192_53, e_192_55, e_192_56t, e_192_56f, e_192_59, e_192_60, e_192_63, e_192_64, e_192_66, e_192_68, e_192_69, e_192_70, e_192_72, e_192_74, e_192_76, e_192_77, e_192_79, e_192_80, e_192_82, e_192_83, e_192_85, e_192_87, e_192_88, e_192_91t, e_192_91f, e_192_94, e_192_95, e_192_97, e_192_99, e_192_101, e_192_103, e_192_104, e_192_107, e_192_109, e_192_110, e_192_111, e_192_114, e_192_116, e_192_117, e_192_120, e_192_121, e_192_124, e_192_126, e_192_127, e_192_128, e_192_130, e_192_132t, e_192_132f, e_192_135, e_192_137, e_192_138, e_192_141, e_192_142, e_192_145t, e_192_145f, e_192_148, e_192_149, e_192_152, e_192_153, e_192_155, e_192_158, e_192_161, e_192_163t, e_192_163f, e_192_166, e_192_167, e_192_168, e_192_169t, e_192_169f, e_192_172, e_192_175, e_192_177, e_192_178, e_192_180, e_192_182, e_192_183, e_192_184, e_192_186, e_192_187, e_192_190, e_192_191, e_192_194, e_192_197, e_192_200, e_192_203, e_192_206, e_192_207, zPa_some, zPn_some, zRK_some, zRK_none, zCk_t, zis_ob, zget_set_eq, zget_set_ne, zAld_10, zAld_11, zAst_10, zAst_11, zAlen_10, zAlen_11, zbd_t, zbd_f, zb_t, zb_f, zset_set, s_one0, s_one1, zis_so]
    rw [hl]
    have e : exP v R q i p = if gdI v R i = true then (p.1 + 1, if p.1 = q then hCo i else p.2) else p := rfl
    cases g : gdI v R i with
    | true =>
      rw [g, if_pos rfl] at e
      have y := EM_set (h' := (exP v R q i p).2) x
      have c2 := ih (i + 1) (exP v R q i p) _ (some (.int (zi l4))) (some (.int (zi l5))) (some (.int (zi l6))) (some (.int (zi l7))) (some (.int (zi (zb true)))) (some (.int (zi l9))) u' y (by omega) (by omega) (by rw [e]; exact ⟨by show 0 ≤ p.1 + 1; omega, by show p.1 + 1 ≤ i + 1; omega⟩) d K
      rw [zset_set] at c2
      rw [← c2, e]
      dsimp only
      by_cases c1 : p.1 = q
      · rw [if_pos c1]
        unfold hCo
        rw [e4, e6, e7]
        simp (disch := omega) only [zgm_0, zgm_1, zgm_2, zgm_3, zgm_4, zgm_5, zgm_6, zgm_7, zgm_8, zgm_9, zgm_10, zgm_11, zgm_12, zgm_13, zgm_14, zgm_15, zgm_16, zgm_17, zgm_18, zgm_19, zgm_20, zgm_21, zgm_22, zgm_23, zgm_24, zgm_25, zgm_26, zgm_27, zgm_28, zgm_29, zgm_30, zgm_31, zgm_32, zgm_33, zgm_34, zgm_35, zgm_36, zgm_37, zpm_4, zpm_5, zpm_6, zpm_7, zpm_8, zpm_9, zpm_10, zpm_11, zpm_12, zpm_13, zpm_14, zpm_15, zpm_16, zpm_17, zpm_18, zpm_22, zpm_23, zpm_31, zpm_32, zpm_36, zis_mo, zuN_eq, zuN_ne, zen_192, e_192_0, e_192_1, e_192_2, e_192_3, e_192_4, e_192_7, e_192_8, e_192_9, e_192_10, e_192_16, e_192_17t, e_192_17f, e_192_20, e_192_21, e_192_24, e_192_25, e_192_28t, e_192_28f, e_192_31, e_192_32, e_192_35, e_192_36, e_192_38, e_192_39t, e_192_39f, e_192_42, e_192_43, e_192_46, e_192_47, e_192_48, e_192_49, e_192_52, e_192_53, e_192_55, e_192_56t, e_192_56f, e_192_59, e_192_60, e_192_63, e_192_64, e_192_66, e_192_68, e_192_69, e_192_70, e_192_72, e_192_74, e_192_76, e_192_77, e_192_79, e_192_80, e_192_82, e_192_83, e_192_85, e_192_87, e_192_88, e_192_91t, e_192_91f, e_192_94, e_192_95, e_192_97, e_192_99, e_192_101, e_192_103, e_192_104, e_192_107, e_192_109, e_192_110, e_192_111, e_192_114, e_192_116, e_192_117, e_192_120, e_192_121, e_192_124, e_192_126, e_192_127, e_192_128, e_192_130, e_192_132t, e_192_132f, e_192_135, e_192_137, e_192_138, e_192_141, e_192_142, e_192_145t, e_192_145f, e_192_148, e_192_149, e_192_152, e_192_153, e_192_155, e_192_158, e_192_161, e_192_163t, e_192_163f, e_192_166, e_192_167, e_192_168, e_192_169t, e_192_169f, e_192_172, e_192_175, e_192_177, e_192_178, e_192_180, e_192_182, e_192_183, e_192_184, e_192_186, e_192_187, e_192_190, e_192_191, e_192_194, e_192_197, e_192_200, e_192_203, e_192_206, e_192_207, zPa_some, zPn_some, zRK_some, zRK_none, zCk_t, zis_ob, zget_set_eq, zget_set_ne, zAld_10, zAld_11, zAst_10, zAst_11, zAlen_10, zAlen_11, zbd_t, zbd_f, zb_t, zb_f, zset_set, s_one0, s_one1, zis_so, x1, zuN_zuN]
      · rw [if_neg c1]
        have e5 : zuN w 22 p.2 22 = p.2 := rfl
        rw [zset_same x1]
        simp (disch := omega) only [zgm_0, zgm_1, zgm_2, zgm_3, zgm_4, zgm_5, zgm_6, zgm_7, zgm_8, zgm_9, zgm_10, zgm_11, zgm_12, zgm_13, zgm_14, zgm_15, zgm_16, zgm_17, zgm_18, zgm_19, zgm_20, zgm_21, zgm_22, zgm_23, zgm_24, zgm_25, zgm_26, zgm_27, zgm_28, zgm_29, zgm_30, zgm_31, zgm_32, zgm_33, zgm_34, zgm_35, zgm_36, zgm_37, zpm_4, zpm_5, zpm_6, zpm_7, zpm_8, zpm_9, zpm_10, zpm_11, zpm_12, zpm_13, zpm_14, zpm_15, zpm_16, zpm_17, zpm_18, zpm_22, zpm_23, zpm_31, zpm_32, zpm_36, zis_mo, zuN_eq, zuN_ne, zen_192, e_192_0, e_192_1, e_192_2, e_192_3, e_192_4, e_192_7, e_192_8, e_192_9, e_192_10, e_192_16, e_192_17t, e_192_17f, e_192_20, e_192_21, e_192_24, e_192_25, e_192_28t, e_192_28f, e_192_31, e_192_32, e_192_35, e_192_36, e_192_38, e_192_39t, e_192_39f, e_192_42, e_192_43, e_192_46, e_192_47, e_192_48, e_192_49, e_192_52, e_192_53, e_192_55, e_192_56t, e_192_56f, e_192_59, e_192_60, e_192_63, e_192_64, e_192_66, e_192_68, e_192_69, e_192_70, e_192_72, e_192_74, e_192_76, e_192_77, e_192_79, e_192_80, e_192_82, e_192_83, e_192_85, e_192_87, e_192_88, e_192_91t, e_192_91f, e_192_94, e_192_95, e_192_97, e_192_99, e_192_101, e_192_103, e_192_104, e_192_107, e_192_109, e_192_110, e_192_111, e_192_114, e_192_116, e_192_117, e_192_120, e_192_121, e_192_124, e_192_126, e_192_127, e_192_128, e_192_130, e_192_132t, e_192_132f, e_192_135, e_192_137, e_192_138, e_192_141, e_192_142, e_192_145t, e_192_145f, e_192_148, e_192_149, e_192_152, e_192_153, e_192_155, e_192_158, e_192_161, e_192_163t, e_192_163f, e_192_166, e_192_167, e_192_168, e_192_169t, e_192_169f, e_192_172, e_192_175, e_192_177, e_192_178, e_192_180, e_192_182, e_192_183, e_192_184, e_192_186, e_192_187, e_192_190, e_192_191, e_192_194, e_192_197, e_192_200, e_192_203, e_192_206, e_192_207, zPa_some, zPn_some, zRK_some, zRK_none, zCk_t, zis_ob, zget_set_eq, zget_set_ne, zAld_10, zAld_11, zAst_10, zAst_11, zAlen_10, zAlen_11, zbd_t, zbd_f, zb_t, zb_f, zset_set, s_one0, s_one1, zis_so, x1, e5, zuN_zuN]
        try rw [zset_same x1]
    | false =>
      rw [g, if_neg (by decide)] at e
      rw [e]
      have c2 := ih (i + 1) p M (some (.int (zi l4))) (some (.int (zi l5))) (some (.int (zi l6))) (some (.int (zi l7))) (some (.int (zi (zb false)))) (some (.int (zi l9))) u' x (by omega) (by omega) (by omega) d K
      rw [← c2]
      simp (disch := omega) only [zgm_0, zgm_1, zgm_2, zgm_3, zgm_4, zgm_5, zgm_6, zgm_7, zgm_8, zgm_9, zgm_10, zgm_11, zgm_12, zgm_13, zgm_14, zgm_15, zgm_16, zgm_17, zgm_18, zgm_19, zgm_20, zgm_21, zgm_22, zgm_23, zgm_24, zgm_25, zgm_26, zgm_27, zgm_28, zgm_29, zgm_30, zgm_31, zgm_32, zgm_33, zgm_34, zgm_35, zgm_36, zgm_37, zpm_4, zpm_5, zpm_6, zpm_7, zpm_8, zpm_9, zpm_10, zpm_11, zpm_12, zpm_13, zpm_14, zpm_15, zpm_16, zpm_17, zpm_18, zpm_22, zpm_23, zpm_31, zpm_32, zpm_36, zis_mo, zuN_eq, zuN_ne, zen_192, e_192_0, e_192_1, e_192_2, e_192_3, e_192_4, e_192_7, e_192_8, e_192_9, e_192_10, e_192_16, e_192_17t, e_192_17f, e_192_20, e_192_21, e_192_24, e_192_25, e_192_28t, e_192_28f, e_192_31, e_192_32, e_192_35, e_192_36, e_192_38, e_192_39t, e_192_39f, e_192_42, e_192_43, e_192_46, e_192_47, e_192_48, e_192_49, e_192_52, e_192_53, e_192_55, e_192_56t, e_192_56f, e_192_59, e_192_60, e_192_63, e_192_64, e_192_66, e_192_68, e_192_69, e_192_70, e_192_72, e_192_74, e_192_76, e_192_77, e_192_79, e_192_80, e_192_82, e_192_83, e_192_85, e_192_87, e_192_88, e_192_91t, e_192_91f, e_192_94, e_192_95, e_192_97, e_192_99, e_192_101, e_192_103, e_192_104, e_192_107, e_192_109, e_192_110, e_192_111, e_192_114, e_192_116, e_192_117, e_192_120, e_192_121, e_192_124, e_192_126, e_192_127, e_192_128, e_192_130, e_192_132t, e_192_132f, e_192_135, e_192_137, e_192_138, e_192_141, e_192_142, e_192_145t, e_192_145f, e_192_148, e_192_149, e_192_152, e_192_153, e_192_155, e_192_158, e_192_161, e_192_163t, e_192_163f, e_192_166, e_192_167, e_192_168, e_192_169t, e_192_169f, e_192_172, e_192_175, e_192_177, e_192_178, e_192_180, e_192_182, e_192_183, e_192_184, e_192_186, e_192_187, e_192_190, e_192_191, e_192_194, e_192_197, e_192_200, e_192_203, e_192_206, e_192_207, zPa_some, zPn_some, zRK_some, zRK_none, zCk_t, zis_ob, zget_set_eq, zget_set_ne, zAld_10, zAld_11, zAst_10, zAst_11, zAlen_10, zAlen_11, zbd_t, zbd_f, zb_t, zb_f, zset_set, s_one0, s_one1, zis_so, x1]
theorem s_explain (x : MI c v F C G R D M) (ri : RI v G R D) : ∃ w, zAg w v ∧ zget M c = some (zMo c w) ∧ ∀ (q : Int), (-2147483648 ≤ q ∧ q < 2147483648) → ∀ (d : Nat) (K : zK), zC (d + 5) 192 [.ref c, .int (zi q)] M K = K (some (.int (zi (zfor (exP v R q) 961 0 (0, -1)).1))) (zset M c (zMo c (zuN w 22 (zfor (exP v R q) 961 0 (0, -1)).2))) := by
  obtain ⟨w, ha, h0, h1, h2, h3, ⟨A4, h4⟩, h5, h6, h7, h8, h9, h10, h11, h12, h13, h14, ⟨A15, h15⟩, ⟨A16, h16⟩, ⟨A17, h17⟩, A18, h18⟩ := x
  refine ⟨w, ha, h0, fun q hq d K => ?_⟩
  have y : EM c w R (-1) (zset M c (zMo c (zuN w 22 (-1)))) := ⟨zget_set_eq, (zget_set_ne (by omega)).trans h5, (zget_set_ne (by omega)).trans h6, (zget_set_ne (by omega)).trans h7⟩
  have e := lm_192 ha ri.2.2.1 ri.1 q hq 961 0 (0, -1) _ none none none none none none none y (by omega) (by omega) (by decide) d K
  rw [zset_set] at e
  rw [← e]
  simp (disch := omega) only [zgm_0, zgm_1, zgm_2, zgm_3, zgm_4, zgm_5, zgm_6, zgm_7, zgm_8, zgm_9, zgm_10, zgm_11, zgm_12, zgm_13, zgm_14, zgm_15, zgm_16, zgm_17, zgm_18, zgm_19, zgm_20, zgm_21, zgm_22, zgm_23, zgm_24, zgm_25, zgm_26, zgm_27, zgm_28, zgm_29, zgm_30, zgm_31, zgm_32, zgm_33, zgm_34, zgm_35, zgm_36, zgm_37, zpm_4, zpm_5, zpm_6, zpm_7, zpm_8, zpm_9, zpm_10, zpm_11, zpm_12, zpm_13, zpm_14, zpm_15, zpm_16, zpm_17, zpm_18, zpm_22, zpm_23, zpm_31, zpm_32, zpm_36, zis_mo, zuN_eq, zuN_ne, zen_192, e_192_0, e_192_1, e_192_2, e_192_3, e_192_4, e_192_7, e_192_8, e_192_9, e_192_10, e_192_16, e_192_17t, e_192_17f, e_192_20, e_192_21, e_192_24, e_192_25, e_192_28t, e_192_28f, e_192_31, e_192_32, e_192_35, e_192_36, e_192_38, e_192_39t, e_192_39f, e_192_42, e_192_43, e_192_46, e_192_47, e_192_48, e_192_49, e_192_52, e_192_53, e_192_55, e_192_56t, e_192_56f, e_192_59, e_192_60, e_192_63, e_192_64, e_192_66, e_192_68, e_192_69, e_192_70, e_192_72, e_192_74, e_192_76, e_192_77, e_192_79, e_192_80, e_192_82, e_192_83, e_192_85, e_192_87, e_192_88, e_192_91t, e_192_91f, e_192_94, e_192_95, e_192_97, e_192_99, e_192_101, e_192_103, e_192_104, e_192_107, e_192_109, e_192_110, e_192_111, e_192_114, e_192_116, e_192_117, e_192_120, e_192_121, e_192_124, e_192_126, e_192_127, e_192_128, e_192_130, e_192_132t, e_192_132f, e_192_135, e_192_137, e_192_138, e_192_141, e_192_142, e_192_145t, e_192_145f, e_192_148, e_192_149, e_192_152, e_192_153, e_192_155, e_192_158, e_192_161, e_192_163t, e_192_163f, e_192_166, e_192_167, e_192_168, e_192_169t, e_192_169f, e_192_172, e_192_175, e_192_177, e_192_178, e_192_180, e_192_182, e_192_183, e_192_184, e_192_186, e_192_187, e_192_190, e_192_191, e_192_194, e_192_197, e_192_200, e_192_203, e_192_206, e_192_207, zPa_some, zPn_some, zRK_some, zRK_none, zCk_t, zis_ob, zget_set_eq, zget_set_ne, zAld_10, zAld_11, zAst_10, zAst_11, zAlen_10, zAlen_11, zbd_t, zbd_f, zb_t, zb_f, zset_set, s_one0, s_one1, zis_so, h0]
theorem MI_w22 (x : MI c v F C G R D M) (ha : zAg w v) (h : Int) : MI c v F C G R D (zset M c (zMo c (zuN w 22 h))) := by
  obtain ⟨w', ha', h0, h1, h2, h3, ⟨A4, h4⟩, h5, h6, h7, h8, h9, h10, h11, h12, h13, h14, ⟨A15, h15⟩, ⟨A16, h16⟩, ⟨A17, h17⟩, A18, h18⟩ := x
  have hb : zAg (zuN w 22 h) v := fun j hj => by rw [zuN_ne (by omega)]; exact ha j hj
  exact ⟨zuN w 22 h, hb, zget_set_eq, (zget_set_ne (by omega)).trans h1, (zget_set_ne (by omega)).trans h2, (zget_set_ne (by omega)).trans h3, ⟨A4, (zget_set_ne (by omega)).trans h4⟩, (zget_set_ne (by omega)).trans h5, (zget_set_ne (by omega)).trans h6, (zget_set_ne (by omega)).trans h7, (zget_set_ne (by omega)).trans h8, (zget_set_ne (by omega)).trans h9, (zget_set_ne (by omega)).trans h10, (zget_set_ne (by omega)).trans h11, (zget_set_ne (by omega)).trans h12, (zget_set_ne (by omega)).trans h13, (zget_set_ne (by omega)).trans h14, ⟨A15, (zget_set_ne (by omega)).trans h15⟩, ⟨A16, (zget_set_ne (by omega)).trans h16⟩, ⟨A17, (zget_set_ne (by omega)).trans h17⟩, A18, (zget_set_ne (by omega)).trans h18⟩
theorem m_explains (x : MI c v F C G R D M) (ri : RI v G R D) : MCl c 9 193 [.ref c] (.int (zi (exN v R 961 0 0))) v F C G R D M := by
  obtain ⟨w, ha, h0, e⟩ := s_explain x ri
  refine ⟨_, fun d K => ?_, MI_w22 x ha (zfor (exP v R (-1)) 961 0 (0, -1)).2, zFr_set (by omega)⟩
  have e1 := e (-1) (by omega)
  rw [exP_1] at e1
  simp (disch := omega) only [zgm_0, zgm_1, zgm_2, zgm_3, zgm_4, zgm_5, zgm_6, zgm_7, zgm_8, zgm_9, zgm_10, zgm_11, zgm_12, zgm_13, zgm_14, zgm_15, zgm_16, zgm_17, zgm_18, zgm_19, zgm_20, zgm_21, zgm_22, zgm_23, zgm_24, zgm_25, zgm_26, zgm_27, zgm_28, zgm_29, zgm_30, zgm_31, zgm_32, zgm_33, zgm_34, zgm_35, zgm_36, zgm_37, zpm_4, zpm_5, zpm_6, zpm_7, zpm_8, zpm_9, zpm_10, zpm_11, zpm_12, zpm_13, zpm_14, zpm_15, zpm_16, zpm_17, zpm_18, zpm_22, zpm_23, zpm_31, zpm_32, zpm_36, zis_mo, zuN_eq, zuN_ne, zen_193, e_193_0, e_193_1, e_193_2, e_193_5, zPa_some, zPn_some, zRK_some, zRK_none, zCk_t, zis_ob, zget_set_eq, zget_set_ne, zAld_10, zAld_11, zAst_10, zAst_11, zAlen_10, zAlen_11, zbd_t, zbd_f, zb_t, zb_f, zset_set, s_one0, s_one1, zis_so, h0, e1]
theorem m_explained (x : MI c v F C G R D M) (ri : RI v G R D) (q : Int) (hq : -2147483648 ≤ q ∧ q < 2147483648) : MCl c 9 194 [.ref c, .int (zi q)] (.int (zi (exC v R q 961 0 0))) v F C G R D M := by
  obtain ⟨w, ha, h0, e⟩ := s_explain x ri
  refine ⟨_, fun d K => ?_, MI_w22 x ha (zfor (exP v R q) 961 0 (0, -1)).2, zFr_set (by omega)⟩
  have e1 := e q hq
  have p0 := exP_0 (v := v) (R := R) (q := q)
  have p2 := exP_2 (v := v) (R := R) (q := q) 961 0 0
  have rn : (zfor (exP v R q) 961 0 (0, -1)).1 ≤ 961 := by
    have := zfor_pred (f := exP v R q) (Q := fun p => True) (P := fun _ => True) 961 0 (0, -1) (fun _ _ _ _ => by simp)
    have key : ∀ (n : Nat) (i : Int) (p : Int × Int), (zfor (exP v R q) n i p).1 ≤ p.1 + n := by
      intro n
      induction n with
      | zero => intro i p; rw [zfor_0]; omega
      | succ n ih =>
        intro i p
        rw [zfor_s]
        have h1 := ih (i + 1) (exP v R q i p)
        have h2 : (exP v R q i p).1 ≤ p.1 + 1 := by
          unfold exP
          split
          · exact Int.le_refl _
          · omega
        omega
    have := key 961 0 (0, -1)
    dsimp only at this
    omega
  have e5 : zuN w 22 (zfor (exP v R q) 961 0 (0, -1)).2 22 = (zfor (exP v R q) 961 0 (0, -1)).2 := rfl
  by_cases c1 : 0 < (zfor (exP v R q) 961 0 (0, -1)).1
  · rw [← p2]
    simp (disch := omega) only [zgm_0, zgm_1, zgm_2, zgm_3, zgm_4, zgm_5, zgm_6, zgm_7, zgm_8, zgm_9, zgm_10, zgm_11, zgm_12, zgm_13, zgm_14, zgm_15, zgm_16, zgm_17, zgm_18, zgm_19, zgm_20, zgm_21, zgm_22, zgm_23, zgm_24, zgm_25, zgm_26, zgm_27, zgm_28, zgm_29, zgm_30, zgm_31, zgm_32, zgm_33, zgm_34, zgm_35, zgm_36, zgm_37, zpm_4, zpm_5, zpm_6, zpm_7, zpm_8, zpm_9, zpm_10, zpm_11, zpm_12, zpm_13, zpm_14, zpm_15, zpm_16, zpm_17, zpm_18, zpm_22, zpm_23, zpm_31, zpm_32, zpm_36, zis_mo, zuN_eq, zuN_ne, zen_194, e_194_0, e_194_1, e_194_2, e_194_5t, e_194_5f, e_194_8, e_194_9, e_194_12, e_194_15, e_194_16, zPa_some, zPn_some, zRK_some, zRK_none, zCk_t, zis_ob, zget_set_eq, zget_set_ne, zAld_10, zAld_11, zAst_10, zAst_11, zAlen_10, zAlen_11, zbd_t, zbd_f, zb_t, zb_f, zset_set, s_one0, s_one1, zis_so, h0, e1, e5]
  · have c2 := p0.2 (by omega)
    rw [p2] at c2
    rw [c2]
    simp (disch := omega) only [zgm_0, zgm_1, zgm_2, zgm_3, zgm_4, zgm_5, zgm_6, zgm_7, zgm_8, zgm_9, zgm_10, zgm_11, zgm_12, zgm_13, zgm_14, zgm_15, zgm_16, zgm_17, zgm_18, zgm_19, zgm_20, zgm_21, zgm_22, zgm_23, zgm_24, zgm_25, zgm_26, zgm_27, zgm_28, zgm_29, zgm_30, zgm_31, zgm_32, zgm_33, zgm_34, zgm_35, zgm_36, zgm_37, zpm_4, zpm_5, zpm_6, zpm_7, zpm_8, zpm_9, zpm_10, zpm_11, zpm_12, zpm_13, zpm_14, zpm_15, zpm_16, zpm_17, zpm_18, zpm_22, zpm_23, zpm_31, zpm_32, zpm_36, zis_mo, zuN_eq, zuN_ne, zen_194, e_194_0, e_194_1, e_194_2, e_194_5t, e_194_5f, e_194_8, e_194_9, e_194_12, e_194_15, e_194_16, zPa_some, zPn_some, zRK_some, zRK_none, zCk_t, zis_ob, zget_set_eq, zget_set_ne, zAld_10, zAld_11, zAst_10, zAst_11, zAlen_10, zAlen_11, zbd_t, zbd_f, zb_t, zb_f, zset_set, s_one0, s_one1, zis_so, h0, e1]
end EXX
