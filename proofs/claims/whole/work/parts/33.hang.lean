/-! items, hangings -/
section ITEM
variable {a n : Nat} {g : Int → Int} {M : zM}
theorem s_itemOf (h : zget M a = some (zA 10 n g)) (hn : n ≤ 1000) : ∀ (d : Nat) (i : Int) (K : zK), (0 ≤ i ∧ i < n) → zC (d + 1) 145 [.ref a, .int (zi i)] M K = K (some (.int (zi (g i)))) M := by
  intro d i K hi
  simp (disch := omega) only [zen_145, e_145_0, e_145_1t, e_145_1f, e_145_4, e_145_5, e_145_6, e_145_7t, e_145_7f, e_145_10, e_145_11, e_145_12, e_145_13, e_145_16, e_145_17, zPa_some, zPn_some, zRK_some, zRK_none, zCk_t, zis_ob, zget_set_eq, zget_set_ne, zAld_10, zAld_11, zAst_10, zAst_11, zAlen_10, zAlen_11, zbd_t, zbd_f, zb_t, zb_f, zset_set, s_one0, s_one1, zis_so, h]
theorem s_itemOfO (h : zget M a = some (zA 10 n g)) (hn : n ≤ 1000) : ∀ (d : Nat) (i : Int) (K : zK), (-2147483648 ≤ i ∧ i < 2147483648 ∧ (i < 0 ∨ n ≤ i)) → zC (d + 1) 145 [.ref a, .int (zi i)] M K = K (some (.int (zi (-1)))) M := by
  intro d i K hi
  by_cases c : i < 0
  · simp (disch := omega) only [zen_145, e_145_0, e_145_1t, e_145_1f, e_145_4, e_145_5, e_145_6, e_145_7t, e_145_7f, e_145_10, e_145_11, e_145_12, e_145_13, e_145_16, e_145_17, zPa_some, zPn_some, zRK_some, zRK_none, zCk_t, zis_ob, zget_set_eq, zget_set_ne, zAld_10, zAld_11, zAst_10, zAst_11, zAlen_10, zAlen_11, zbd_t, zbd_f, zb_t, zb_f, zset_set, s_one0, s_one1, zis_so, h]
  · simp (disch := omega) only [zen_145, e_145_0, e_145_1t, e_145_1f, e_145_4, e_145_5, e_145_6, e_145_7t, e_145_7f, e_145_10, e_145_11, e_145_12, e_145_13, e_145_16, e_145_17, zPa_some, zPn_some, zRK_some, zRK_none, zCk_t, zis_ob, zget_set_eq, zget_set_ne, zAld_10, zAld_11, zAst_10, zAst_11, zAlen_10, zAlen_11, zbd_t, zbd_f, zb_t, zb_f, zset_set, s_one0, s_one1, zis_so, h]
theorem s_itemOf3 {f : Nat → Int32} (h : zget M a = some (zA3 n f)) (hn : n ≤ 1000) (hf : ∀ i : Int, (0 ≤ i ∧ i < n) → f i.toNat = zi (g i)) : ∀ (d : Nat) (i : Int) (K : zK), (0 ≤ i ∧ i < n) → zC (d + 1) 145 [.ref a, .int (zi i)] M K = K (some (.int (zi (g i)))) M := by
  intro d i K hi
  have e := hf i hi
  simp (disch := omega) only [zen_145, e_145_0, e_145_1t, e_145_1f, e_145_4, e_145_5, e_145_6, e_145_7t, e_145_7f, e_145_10, e_145_11, e_145_12, e_145_13, e_145_16, e_145_17, zPa_some, zPn_some, zRK_some, zRK_none, zCk_t, zis_ob, zget_set_eq, zget_set_ne, zAld_10, zAld_11, zAst_10, zAst_11, zAlen_10, zAlen_11, zbd_t, zbd_f, zb_t, zb_f, zset_set, s_one0, s_one1, zis_so, h, zAld_13, zAlen_13, e]
theorem s_putItem (h : zget M a = some (zA 10 n g)) (hn : n ≤ 1000) : ∀ (d : Nat) (i x : Int) (K : zK), (0 ≤ i ∧ i < n) → zC (d + 1) 146 [.ref a, .int (zi i), .int (zi x)] M K = K none (zset M a (zA 10 n (zu g i x))) := by
  intro d i x K hi
  simp (disch := omega) only [zen_146, e_146_0, e_146_1t, e_146_1f, e_146_4, e_146_5, e_146_6, e_146_7t, e_146_7f, e_146_10, e_146_11, e_146_12, e_146_13, e_146_14, zPa_some, zPn_some, zRK_some, zRK_none, zCk_t, zis_ob, zget_set_eq, zget_set_ne, zAld_10, zAld_11, zAst_10, zAst_11, zAlen_10, zAlen_11, zbd_t, zbd_f, zb_t, zb_f, zset_set, s_one0, s_one1, zis_so, h]
end ITEM
theorem tdiv_neg' {x y : Int} (h : x < 0) : x.tdiv y = - ((-x).tdiv y) := by
  have e : x = -(-x) := by omega
  conv => lhs; rw [e]
  rw [Int.neg_tdiv]
theorem s_floorDiv800 {d : Nat} {x : Int} {M : zM} {K : zK} (h : -2000000000 ≤ x ∧ x < 2000000000) : zC (d + 1) 218 [.int (zi x), .int (zi 800)] M K = K (some (.int (zi (x / 800)))) M := by
  by_cases c : x < 0
  · have c1 : zxor x 800 < 0 := (zxor_neg (by omega)).mpr c
    have hx := zxor_rng x 800
    have e3 : x.tdiv 800 = - ((-x) / 800) := by rw [tdiv_neg' c, Int.tdiv_eq_ediv_of_nonneg (by omega)]
    by_cases c2 : x.tdiv 800 * 800 = x
    · simp (disch := omega) only [zen_218, e_218_0, e_218_1, e_218_2, e_218_3, e_218_4, e_218_5, e_218_6, e_218_7t, e_218_7f, e_218_10, e_218_11, e_218_12, e_218_13, e_218_14t, e_218_14f, e_218_17, e_218_18, e_218_19, e_218_20, e_218_21, e_218_22, zPa_some, zPn_some, zRK_some, zRK_none, zCk_t, zis_ob, zget_set_eq, zget_set_ne, zAld_10, zAld_11, zAst_10, zAst_11, zAlen_10, zAlen_11, zbd_t, zbd_f, zb_t, zb_f, zset_set, s_one0, s_one1, zis_so]
      rw [show x.tdiv 800 = x / 800 by omega]
    · simp (disch := omega) only [zen_218, e_218_0, e_218_1, e_218_2, e_218_3, e_218_4, e_218_5, e_218_6, e_218_7t, e_218_7f, e_218_10, e_218_11, e_218_12, e_218_13, e_218_14t, e_218_14f, e_218_17, e_218_18, e_218_19, e_218_20, e_218_21, e_218_22, zPa_some, zPn_some, zRK_some, zRK_none, zCk_t, zis_ob, zget_set_eq, zget_set_ne, zAld_10, zAld_11, zAst_10, zAst_11, zAlen_10, zAlen_11, zbd_t, zbd_f, zb_t, zb_f, zset_set, s_one0, s_one1, zis_so]
      rw [show x.tdiv 800 - 1 = x / 800 by omega]
  · have c1 : ¬ zxor x 800 < 0 := fun q => c ((zxor_neg (by omega)).mp q)
    have hx := zxor_rng x 800
    have e3 := zdiv_f (x := x) (y := 800) (by omega)
    simp (disch := omega) only [zen_218, e_218_0, e_218_1, e_218_2, e_218_3, e_218_4, e_218_5, e_218_6, e_218_7t, e_218_7f, e_218_10, e_218_11, e_218_12, e_218_13, e_218_14t, e_218_14f, e_218_17, e_218_18, e_218_19, e_218_20, e_218_21, e_218_22, zPa_some, zPn_some, zRK_some, zRK_none, zCk_t, zis_ob, zget_set_eq, zget_set_ne, zAld_10, zAld_11, zAst_10, zAst_11, zAlen_10, zAlen_11, zbd_t, zbd_f, zb_t, zb_f, zset_set, s_one0, s_one1, zis_so]
    rw [e3]
theorem s_floorDiv8 {d : Nat} {x : Int} {M : zM} {K : zK} (h : -2000000000 ≤ x ∧ x < 2000000000) : zC (d + 1) 218 [.int (zi x), .int (zi 8)] M K = K (some (.int (zi (x / 8)))) M := by
  by_cases c : x < 0
  · have c1 : zxor x 8 < 0 := (zxor_neg (by omega)).mpr c
    have hx := zxor_rng x 8
    have e3 : x.tdiv 8 = - ((-x) / 8) := by rw [tdiv_neg' c, Int.tdiv_eq_ediv_of_nonneg (by omega)]
    by_cases c2 : x.tdiv 8 * 8 = x
    · simp (disch := omega) only [zen_218, e_218_0, e_218_1, e_218_2, e_218_3, e_218_4, e_218_5, e_218_6, e_218_7t, e_218_7f, e_218_10, e_218_11, e_218_12, e_218_13, e_218_14t, e_218_14f, e_218_17, e_218_18, e_218_19, e_218_20, e_218_21, e_218_22, zPa_some, zPn_some, zRK_some, zRK_none, zCk_t, zis_ob, zget_set_eq, zget_set_ne, zAld_10, zAld_11, zAst_10, zAst_11, zAlen_10, zAlen_11, zbd_t, zbd_f, zb_t, zb_f, zset_set, s_one0, s_one1, zis_so]
      rw [show x.tdiv 8 = x / 8 by omega]
    · simp (disch := omega) only [zen_218, e_218_0, e_218_1, e_218_2, e_218_3, e_218_4, e_218_5, e_218_6, e_218_7t, e_218_7f, e_218_10, e_218_11, e_218_12, e_218_13, e_218_14t, e_218_14f, e_218_17, e_218_18, e_218_19, e_218_20, e_218_21, e_218_22, zPa_some, zPn_some, zRK_some, zRK_none, zCk_t, zis_ob, zget_set_eq, zget_set_ne, zAld_10, zAld_11, zAst_10, zAst_11, zAlen_10, zAlen_11, zbd_t, zbd_f, zb_t, zb_f, zset_set, s_one0, s_one1, zis_so]
      rw [show x.tdiv 8 - 1 = x / 8 by omega]
  · have c1 : ¬ zxor x 8 < 0 := fun q => c ((zxor_neg (by omega)).mp q)
    have hx := zxor_rng x 8
    have e3 := zdiv_f (x := x) (y := 8) (by omega)
    simp (disch := omega) only [zen_218, e_218_0, e_218_1, e_218_2, e_218_3, e_218_4, e_218_5, e_218_6, e_218_7t, e_218_7f, e_218_10, e_218_11, e_218_12, e_218_13, e_218_14t, e_218_14f, e_218_17, e_218_18, e_218_19, e_218_20, e_218_21, e_218_22, zPa_some, zPn_some, zRK_some, zRK_none, zCk_t, zis_ob, zget_set_eq, zget_set_ne, zAld_10, zAld_11, zAst_10, zAst_11, zAlen_10, zAlen_11, zbd_t, zbd_f, zb_t, zb_f, zset_set, s_one0, s_one1, zis_so]
    rw [e3]
/-- slopes -/
def slq (u : Int) : Int := if u = 0 then 100 else if u = 1 then 97 else if u = 2 then 87 else if u = 3 then 71 else if u = 4 then 50 else if u = 5 then 26 else if u = 6 then 0 else if u = 7 then -26 else if u = 8 then -50 else if u = 9 then -71 else if u = 10 then -87 else if u = 11 then -97 else -100
def slp (x : Int) : Int := slq (min (x % 24) (24 - x % 24))
theorem slq_rng (u : Int) : -100 ≤ slq u ∧ slq u ≤ 100 := by unfold slq; repeat' split
                                                             all_goals omega
theorem zSl_slq : ∀ n : Nat, n < 13 → zSl n = zi (slq n) := by decide
theorem zSl_slp {i : Int} (h : 0 ≤ i ∧ i < 13) : zSl i.toNat = zi (slq i) := by
  rw [zSl_slq i.toNat (by omega), Int.toNat_of_nonneg h.1]
def SL (M : zM) : Prop := zget M M.1 = some (zA3 13 zSl)
theorem SL_fr {lo n : Nat} {M M' : zM} (h : SL M) (f : zFr lo n M M') (q : M.1 < lo ∨ lo + n ≤ M.1) : SL M' := by
  unfold SL
  rw [f.2.1]
  exact zFr_get f h q
theorem mul_rng {x y A B : Int} (hx : 0 ≤ x ∧ x ≤ A) (hy : -B ≤ y ∧ y ≤ B) (hB : 0 ≤ B) : -(A * B) ≤ x * y ∧ x * y ≤ A * B := by
  have h1 : x * y ≤ x * B := Int.mul_le_mul_of_nonneg_left hy.2 hx.1
  have h2 : x * B ≤ A * B := Int.mul_le_mul_of_nonneg_right hx.2 hB
  have h3 : x * (-B) ≤ x * y := Int.mul_le_mul_of_nonneg_left hy.1 hx.1
  rw [Int.mul_neg] at h3
  omega
theorem s_slopeOf {M : zM} (h : SL M) : ∀ (d : Nat) (u : Int) (K : zK), (-2147483648 ≤ u ∧ u < 2147483648) → zC (d + 3) 26 [.int (zi u)] M K = K (some (.int (zi (slp u)))) M := by
  intro d u K hu
  unfold SL at h
  have e := s_itemOf3 (g := slq) h (by omega) (fun i hi => zSl_slp hi)
  simp (disch := omega) only [zen_26, e_26_0, e_26_1, e_26_4, e_26_5, e_26_8, e_26_9, e_26_11, e_26_12, e_26_13, e_26_16, e_26_19, zPa_some, zPn_some, zRK_some, zRK_none, zCk_t, zis_ob, zget_set_eq, zget_set_ne, zAld_10, zAld_11, zAst_10, zAst_11, zAlen_10, zAlen_11, zbd_t, zbd_f, zb_t, zb_f, zset_set, s_one0, s_one1, zis_so, s_around, s_min, e]
  rfl
def gp (w k s e r a t : Int) : Int := max 1 (w + s * slp (if k = 2 then a - e - t else a - e) * (r + 1) / 800)
def gRv (w k s e : Int) : Prop := 1 ≤ w ∧ w ≤ 60 ∧ 0 ≤ k ∧ k ≤ 2 ∧ 0 ≤ s ∧ s ≤ 20 ∧ 0 ≤ e ∧ e ≤ 23
theorem gpP_rng {s r u : Int} (hs : 0 ≤ s ∧ s ≤ 20) (hr : 0 ≤ r ∧ r ≤ 7) : (-2000 ≤ s * slp u ∧ s * slp u ≤ 2000) ∧ -16000 ≤ s * slp u * (r + 1) ∧ s * slp u * (r + 1) ≤ 16000 := by
  have h1 := mul_rng (x := s) (y := slp u) (A := 20) (B := 100) hs (slq_rng _) (by omega)
  have h2 := mul_rng (x := r + 1) (y := s * slp u) (A := 8) (B := 2000) (by omega) (by omega) (by omega)
  rw [Int.mul_comm (r + 1)] at h2
  omega
theorem gp_rng {w k s e r a t : Int} (g : gRv w k s e) (hr : 0 ≤ r ∧ r ≤ 7) : 1 ≤ gp w k s e r a t ∧ gp w k s e r a t ≤ 80 := by
  obtain ⟨g1, g2, g3, g4, g5, g6, g7⟩ := g
  have := gpP_rng (s := s) (r := r) (u := if k = 2 then a - e - t else a - e) ⟨g5, g6⟩ hr
  unfold gp
  omega
section HANG
variable {p : Nat} {M : zM} {w k s e : Int}
theorem s_gapOver (hS : SL M) (h : zget M p = some (zOb 2 [.int (zi w), .int (zi k), .int (zi s), .int (zi e)])) (g : gRv w k s e) : ∀ (d : Nat) (r a t : Int) (K : zK), (0 ≤ r ∧ r ≤ 7 ∧ 0 ≤ a ∧ a ≤ 23 ∧ 0 ≤ t ∧ t ≤ 23) → zC (d + 4) 25 [.ref p, .int (zi r), .int (zi a), .int (zi t)] M K = K (some (.int (zi (gp w k s e r a t)))) M := by
  intro d r a t K hr
  obtain ⟨g1, g2, g3, g4, g5, g6, g7, g8⟩ := g
  have e1 := s_slopeOf hS
  unfold gp
  by_cases c : k = 2
  · rw [if_pos c]
    have hP := gpP_rng (s := s) (r := r) (u := a - e - t) ⟨g5, g6⟩ (by omega)
    subst c
    simp (disch := omega) only [zen_25, e_25_0, e_25_1, e_25_4, e_25_5t, e_25_5f, e_25_8, e_25_9, e_25_10, e_25_13, e_25_14, e_25_15, e_25_16, e_25_19, e_25_20, e_25_21, e_25_24, e_25_25, e_25_27, e_25_28, e_25_31, e_25_33, e_25_36, e_25_37, e_25_38, e_25_39, e_25_40, e_25_41, e_25_44, e_25_47, e_25_49, e_25_50, e_25_51, e_25_54, e_25_56, e_25_57, e_25_60, zgf_2_0, zgf_2_1, zgf_2_2, zgf_2_3, zPa_some, zPn_some, zRK_some, zRK_none, zCk_t, zis_ob, zget_set_eq, zget_set_ne, zAld_10, zAld_11, zAst_10, zAst_11, zAlen_10, zAlen_11, zbd_t, zbd_f, zb_t, zb_f, zset_set, s_one0, s_one1, zis_so, h, e1, s_floorDiv800, s_max]
  · rw [if_neg c]
    have hP := gpP_rng (s := s) (r := r) (u := a - e) ⟨g5, g6⟩ (by omega)
    simp (disch := omega) only [zen_25, e_25_0, e_25_1, e_25_4, e_25_5t, e_25_5f, e_25_8, e_25_9, e_25_10, e_25_13, e_25_14, e_25_15, e_25_16, e_25_19, e_25_20, e_25_21, e_25_24, e_25_25, e_25_27, e_25_28, e_25_31, e_25_33, e_25_36, e_25_37, e_25_38, e_25_39, e_25_40, e_25_41, e_25_44, e_25_47, e_25_49, e_25_50, e_25_51, e_25_54, e_25_56, e_25_57, e_25_60, zgf_2_0, zgf_2_1, zgf_2_2, zgf_2_3, zPa_some, zPn_some, zRK_some, zRK_none, zCk_t, zis_ob, zget_set_eq, zget_set_ne, zAld_10, zAld_11, zAst_10, zAst_11, zAlen_10, zAlen_11, zbd_t, zbd_f, zb_t, zb_f, zset_set, s_one0, s_one1, zis_so, h, e1, s_floorDiv800, s_max]
end HANG
theorem zfor_pred {σ : Type} {f : Int → σ → σ} {Q : σ → Prop} {P : Int → Prop} : ∀ (n : Nat) (i : Int) (s : σ), (∀ j t, i ≤ j → j < i + n → (Q (f j t) ↔ Q t ∧ P j)) → (Q (zfor f n i s) ↔ Q s ∧ ∀ j, i ≤ j → j < i + n → P j) := by
  intro n
  induction n with
  | zero =>
    intro i s h
    rw [zfor_0]
    exact ⟨fun q => ⟨q, fun j h1 h2 => by omega⟩, fun q => q.1⟩
  | succ n ih =>
    intro i s h
    rw [zfor_s, ih (i + 1) (f i s) (fun j t h1 h2 => h j t (by omega) (by omega)), h i s (by omega) (by omega)]
    constructor
    · rintro ⟨⟨q1, q2⟩, q3⟩
      refine ⟨q1, fun j h1 h2 => ?_⟩
      by_cases c : j = i
      · subst c; exact q2
      · exact q3 j (by omega) (by omega)
    · rintro ⟨q1, q2⟩
      exact ⟨⟨q1, q2 i (by omega) (by omega)⟩, fun j h1 h2 => q2 j (by omega) (by omega)⟩
/-- least and greatest gap -/
def mn1 (g : Int → Int) (n : Nat) (i s : Int) : Int := zfor (fun t s => min s (g t)) n i s
def mx1 (g : Int → Int) (n : Nat) (i s : Int) : Int := zfor (fun t s => max s (g t)) n i s
theorem mn1_le {g : Int → Int} {n : Nat} {i s z : Int} : z ≤ mn1 g n i s ↔ z ≤ s ∧ ∀ j, i ≤ j → j < i + n → z ≤ g j := zfor_pred (Q := fun s => z ≤ s) n i s (fun j t _ _ => by omega)
theorem mx1_le {g : Int → Int} {n : Nat} {i s z : Int} : mx1 g n i s ≤ z ↔ s ≤ z ∧ ∀ j, i ≤ j → j < i + n → g j ≤ z := zfor_pred (Q := fun s => s ≤ z) n i s (fun j t _ _ => by omega)
def mnX (g : Int → Int → Int → Int) : Int := zfor (fun r s => zfor (fun a s => mn1 (g r a) 24 0 s) 24 0 s) 8 0 (g 0 0 0)
def mxX (g : Int → Int → Int → Int) : Int := zfor (fun r s => zfor (fun a s => mx1 (g r a) 24 0 s) 24 0 s) 8 0 (g 0 0 0)
def mnM (g : Int → Int → Int → Int) : Int := zfor (fun t s => mn1 (fun q => g (q / 24) (q % 24) t) 192 0 s) 24 0 9999
def mxM (g : Int → Int → Int → Int) : Int := zfor (fun t s => mx1 (fun q => g (q / 24) (q % 24) t) 192 0 s) 24 0 0
theorem mnX_le {g : Int → Int → Int → Int} {z : Int} : z ≤ mnX g ↔ ∀ r a t, 0 ≤ r → r < 8 → 0 ≤ a → a < 24 → 0 ≤ t → t < 24 → z ≤ g r a t := by
  unfold mnX
  rw [zfor_pred (Q := fun s => z ≤ s) (P := fun r => ∀ a : Int, 0 ≤ a → a < 0 + (24 : Nat) → ∀ t : Int, 0 ≤ t → t < 0 + (24 : Nat) → z ≤ g r a t) 8 0 _ (fun r s _ _ => zfor_pred (Q := fun s => z ≤ s) (P := fun a => ∀ t : Int, 0 ≤ t → t < 0 + (24 : Nat) → z ≤ g r a t) 24 0 s (fun a s _ _ => mn1_le))]
  exact ⟨fun q r a t h1 h2 h3 h4 h5 h6 => q.2 r h1 (by omega) a h3 (by omega) t h5 (by omega), fun q => ⟨q 0 0 0 (by omega) (by omega) (by omega) (by omega) (by omega) (by omega), fun r h1 h2 a h3 h4 t h5 h6 => q r a t h1 (by omega) h3 (by omega) h5 (by omega)⟩⟩
theorem mxX_le {g : Int → Int → Int → Int} {z : Int} : mxX g ≤ z ↔ ∀ r a t, 0 ≤ r → r < 8 → 0 ≤ a → a < 24 → 0 ≤ t → t < 24 → g r a t ≤ z := by
  unfold mxX
  rw [zfor_pred (Q := fun s => s ≤ z) (P := fun r => ∀ a : Int, 0 ≤ a → a < 0 + (24 : Nat) → ∀ t : Int, 0 ≤ t → t < 0 + (24 : Nat) → g r a t ≤ z) 8 0 _ (fun r s _ _ => zfor_pred (Q := fun s => s ≤ z) (P := fun a => ∀ t : Int, 0 ≤ t → t < 0 + (24 : Nat) → g r a t ≤ z) 24 0 s (fun a s _ _ => mx1_le))]
  exact ⟨fun q r a t h1 h2 h3 h4 h5 h6 => q.2 r h1 (by omega) a h3 (by omega) t h5 (by omega), fun q => ⟨q 0 0 0 (by omega) (by omega) (by omega) (by omega) (by omega) (by omega), fun r h1 h2 a h3 h4 t h5 h6 => q r a t h1 (by omega) h3 (by omega) h5 (by omega)⟩⟩
theorem mnM_le {g : Int → Int → Int → Int} {z : Int} : z ≤ mnM g ↔ z ≤ 9999 ∧ ∀ r a t, 0 ≤ r → r < 8 → 0 ≤ a → a < 24 → 0 ≤ t → t < 24 → z ≤ g r a t := by
  unfold mnM
  rw [zfor_pred (Q := fun s => z ≤ s) (P := fun t => ∀ q : Int, 0 ≤ q → q < 0 + (192 : Nat) → z ≤ g (q / 24) (q % 24) t) 24 0 _ (fun t s _ _ => mn1_le)]
  refine ⟨fun q => ⟨q.1, fun r a t h1 h2 h3 h4 h5 h6 => ?_⟩, fun q => ⟨q.1, fun t h1 h2 j h3 h4 => q.2 (j / 24) (j % 24) t (by omega) (by omega) (by omega) (by omega) h1 (by omega)⟩⟩
  have := q.2 t h5 (by omega) (r * 24 + a) (by omega) (by omega)
  rw [show (r * 24 + a) / 24 = r by omega, show (r * 24 + a) % 24 = a by omega] at this
  exact this
theorem mxM_le {g : Int → Int → Int → Int} {z : Int} : mxM g ≤ z ↔ 0 ≤ z ∧ ∀ r a t, 0 ≤ r → r < 8 → 0 ≤ a → a < 24 → 0 ≤ t → t < 24 → g r a t ≤ z := by
  unfold mxM
  rw [zfor_pred (Q := fun s => s ≤ z) (P := fun t => ∀ q : Int, 0 ≤ q → q < 0 + (192 : Nat) → g (q / 24) (q % 24) t ≤ z) 24 0 _ (fun t s _ _ => mx1_le)]
  refine ⟨fun q => ⟨q.1, fun r a t h1 h2 h3 h4 h5 h6 => ?_⟩, fun q => ⟨q.1, fun t h1 h2 j h3 h4 => q.2 (j / 24) (j % 24) t (by omega) (by omega) (by omega) (by omega) h1 (by omega)⟩⟩
  have := q.2 t h5 (by omega) (r * 24 + a) (by omega) (by omega)
  rw [show (r * 24 + a) / 24 = r by omega, show (r * 24 + a) % 24 = a by omega] at this
  exact this
theorem mn_two {g : Int → Int → Int → Int} (h : g 0 0 0 ≤ 9999) : mnX g = mnM g := by
  have h1 : mnX g ≤ mnM g := by
    have q := mnX_le.mp (Int.le_refl (mnX g))
    exact mnM_le.mpr ⟨Int.le_trans (q 0 0 0 (by omega) (by omega) (by omega) (by omega) (by omega) (by omega)) h, q⟩
  have h2 : mnM g ≤ mnX g := mnX_le.mpr (mnM_le.mp (Int.le_refl (mnM g))).2
  omega
theorem mx_two {g : Int → Int → Int → Int} (h : 0 ≤ g 0 0 0) : mxX g = mxM g := by
  have h1 : mxM g ≤ mxX g := by
    have q := mxX_le.mp (Int.le_refl (mxX g))
    exact mxM_le.mpr ⟨Int.le_trans h (q 0 0 0 (by omega) (by omega) (by omega) (by omega) (by omega) (by omega)), q⟩
  have h2 : mxX g ≤ mxM g := mxX_le.mpr (mxM_le.mp (Int.le_refl (mxM g))).2
  omega
