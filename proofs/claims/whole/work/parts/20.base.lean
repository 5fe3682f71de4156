/-! the small methods -/
theorem zbd_t {p : Prop} {_ : Decidable p} (h : p) : zb (decide p) = 1 := by rw [decide_eq_true h]; rfl
theorem zbd_f {p : Prop} {_ : Decidable p} (h : ¬ p) : zb (decide p) = 0 := by rw [decide_eq_false h]; rfl
theorem zb_rng (b : Bool) : 0 ≤ zb b ∧ zb b ≤ 1 := by cases b <;> decide
/-- signs under exclusive or -/
theorem zxor_neg {x y : Int} (h : -2147483648 ≤ x ∧ x < 2147483648 ∧ 0 ≤ y ∧ y < 2147483648) : zxor x y < 0 ↔ x < 0 := by
  have key : ∀ a b : Int32, (a ^^^ b).toInt < 0 ↔ ¬ (a.toInt < 0 ↔ b.toInt < 0) := by
    intro a b
    have e : ∀ c : Int32, c.toInt < 0 ↔ c.toBitVec.msb = true := by
      intro c
      rw [show c.toInt = c.toBitVec.toInt from rfl, BitVec.toInt_neg_iff, BitVec.msb_eq_decide]
      simp
      omega
    rw [e, e, e]
    show (a.toBitVec ^^^ b.toBitVec).msb = true ↔ _
    rw [BitVec.msb_xor]
    cases a.toBitVec.msb <;> cases b.toBitVec.msb <;> decide
  unfold zxor
  rw [key, zi_toInt h.1 h.2.1, zi_toInt (by omega) (by omega)]
  omega
theorem zxor_rng (x y : Int) : -2147483648 ≤ zxor x y ∧ zxor x y < 2147483648 := by
  unfold zxor
  have h1 := Int32.le_toInt (zi x ^^^ zi y)
  have h2 := Int32.toInt_lt (zi x ^^^ zi y)
  omega
theorem s_max {d : Nat} {x y : Int} {M : zM} {K : zK} (h : -2147483648 ≤ x ∧ x < 2147483648 ∧ -2147483648 ≤ y ∧ y < 2147483648) : zC (d + 1) 221 [.int (zi x), .int (zi y)] M K = K (some (.int (zi (max x y)))) M := by
  by_cases c : x < y
  · simp (disch := omega) only [zen_221, e_221_0, e_221_1, e_221_2t, e_221_2f, e_221_5, e_221_6, e_221_9, e_221_10, zPa_some, zPn_some, zRK_some, zRK_none, zCk_t, zis_ob, zget_set_eq, zget_set_ne, zAld_10, zAld_11, zAst_10, zAst_11, zAlen_10, zAlen_11, zbd_t, zbd_f, zb_t, zb_f, zset_set]
    rw [show max x y = y by omega]
  · simp (disch := omega) only [zen_221, e_221_0, e_221_1, e_221_2t, e_221_2f, e_221_5, e_221_6, e_221_9, e_221_10, zPa_some, zPn_some, zRK_some, zRK_none, zCk_t, zis_ob, zget_set_eq, zget_set_ne, zAld_10, zAld_11, zAst_10, zAst_11, zAlen_10, zAlen_11, zbd_t, zbd_f, zb_t, zb_f, zset_set]
    rw [show max x y = x by omega]
theorem s_min {d : Nat} {x y : Int} {M : zM} {K : zK} (h : -2147483648 ≤ x ∧ x < 2147483648 ∧ -2147483648 ≤ y ∧ y < 2147483648) : zC (d + 1) 222 [.int (zi x), .int (zi y)] M K = K (some (.int (zi (min x y)))) M := by
  by_cases c : y < x
  · simp (disch := omega) only [zen_222, e_222_0, e_222_1, e_222_2t, e_222_2f, e_222_5, e_222_6, e_222_9, e_222_10, zPa_some, zPn_some, zRK_some, zRK_none, zCk_t, zis_ob, zget_set_eq, zget_set_ne, zAld_10, zAld_11, zAst_10, zAst_11, zAlen_10, zAlen_11, zbd_t, zbd_f, zb_t, zb_f, zset_set]
    rw [show min x y = y by omega]
  · simp (disch := omega) only [zen_222, e_222_0, e_222_1, e_222_2t, e_222_2f, e_222_5, e_222_6, e_222_9, e_222_10, zPa_some, zPn_some, zRK_some, zRK_none, zCk_t, zis_ob, zget_set_eq, zget_set_ne, zAld_10, zAld_11, zAst_10, zAst_11, zAlen_10, zAlen_11, zbd_t, zbd_f, zb_t, zb_f, zset_set]
    rw [show min x y = x by omega]
theorem s_isWithin {d : Nat} {v a b : Int} {M : zM} {K : zK} (h : -2147483648 ≤ v ∧ v < 2147483648 ∧ -2147483648 ≤ a ∧ a < 2147483648 ∧ -2147483648 ≤ b ∧ b < 2147483648) : zC (d + 1) 135 [.int (zi v), .int (zi a), .int (zi b)] M K = K (some (.int (zi (zb (decide (a ≤ v ∧ v ≤ b)))))) M := by
  by_cases c : v < a
  · simp (disch := omega) only [zen_135, e_135_0, e_135_1, e_135_2t, e_135_2f, e_135_5, e_135_6, e_135_7t, e_135_7f, e_135_10, e_135_11, e_135_14, e_135_15, zPa_some, zPn_some, zRK_some, zRK_none, zCk_t, zis_ob, zget_set_eq, zget_set_ne, zAld_10, zAld_11, zAst_10, zAst_11, zAlen_10, zAlen_11, zbd_t, zbd_f, zb_t, zb_f, zset_set]
  · by_cases c2 : b < v
    · simp (disch := omega) only [zen_135, e_135_0, e_135_1, e_135_2t, e_135_2f, e_135_5, e_135_6, e_135_7t, e_135_7f, e_135_10, e_135_11, e_135_14, e_135_15, zPa_some, zPn_some, zRK_some, zRK_none, zCk_t, zis_ob, zget_set_eq, zget_set_ne, zAld_10, zAld_11, zAst_10, zAst_11, zAlen_10, zAlen_11, zbd_t, zbd_f, zb_t, zb_f, zset_set]
    · simp (disch := omega) only [zen_135, e_135_0, e_135_1, e_135_2t, e_135_2f, e_135_5, e_135_6, e_135_7t, e_135_7f, e_135_10, e_135_11, e_135_14, e_135_15, zPa_some, zPn_some, zRK_some, zRK_none, zCk_t, zis_ob, zget_set_eq, zget_set_ne, zAld_10, zAld_11, zAst_10, zAst_11, zAlen_10, zAlen_11, zbd_t, zbd_f, zb_t, zb_f, zset_set]
theorem s_isRing {d : Nat} {v : Int} {M : zM} {K : zK} (h : -2147483648 ≤ v ∧ v < 2147483648) : zC (d + 2) 137 [.int (zi v)] M K = K (some (.int (zi (zb (decide (0 ≤ v ∧ v ≤ 7)))))) M := by
  have hb := zb_rng (decide (0 ≤ v ∧ v ≤ 7))
  simp (disch := omega) only [zen_137, e_137_0, e_137_1, e_137_2, e_137_4, e_137_7, zPa_some, zPn_some, zRK_some, zRK_none, zCk_t, zis_ob, zget_set_eq, zget_set_ne, zAld_10, zAld_11, zAst_10, zAst_11, zAlen_10, zAlen_11, zbd_t, zbd_f, zb_t, zb_f, zset_set, s_isWithin]
theorem zmod_f {x y : Int} (h : 0 ≤ x ∧ 0 < y) : x.tmod y = x % y := Int.tmod_eq_emod_of_nonneg h.1
theorem zmod_n {x y : Int} (h : x < 0 ∧ 0 < y) : x.tmod y = - ((-x) % y) := by
  have e : x = -(-x) := by omega
  conv => lhs; rw [e]
  rw [Int.neg_tmod, Int.tmod_eq_emod_of_nonneg (by omega)]
theorem s_floorMod {d : Nat} {x : Int} {M : zM} {K : zK} (h : -2147483648 ≤ x ∧ x < 2147483648) : zC (d + 1) 219 [.int (zi x), .int (zi 24)] M K = K (some (.int (zi (x % 24)))) M := by
  have hx := zxor_rng x 24
  by_cases c : x < 0
  · have c1 : zxor x 24 < 0 := (zxor_neg (by omega)).mpr c
    have e := zmod_n (x := x) (y := 24) (by omega)
    by_cases c2 : x % 24 = 0
    · simp (disch := omega) only [zen_219, e_219_0, e_219_1, e_219_2, e_219_3, e_219_4, e_219_5, e_219_6, e_219_7t, e_219_7f, e_219_10, e_219_11t, e_219_11f, e_219_14, e_219_15, e_219_16, e_219_17, e_219_18, e_219_19, zPa_some, zPn_some, zRK_some, zRK_none, zCk_t, zis_ob, zget_set_eq, zget_set_ne, zAld_10, zAld_11, zAst_10, zAst_11, zAlen_10, zAlen_11, zbd_t, zbd_f, zb_t, zb_f, zset_set]
      rw [show x.tmod 24 = x % 24 by omega]
    · simp (disch := omega) only [zen_219, e_219_0, e_219_1, e_219_2, e_219_3, e_219_4, e_219_5, e_219_6, e_219_7t, e_219_7f, e_219_10, e_219_11t, e_219_11f, e_219_14, e_219_15, e_219_16, e_219_17, e_219_18, e_219_19, zPa_some, zPn_some, zRK_some, zRK_none, zCk_t, zis_ob, zget_set_eq, zget_set_ne, zAld_10, zAld_11, zAst_10, zAst_11, zAlen_10, zAlen_11, zbd_t, zbd_f, zb_t, zb_f, zset_set]
      rw [show x.tmod 24 + 24 = x % 24 by omega]
  · have c1 : ¬ zxor x 24 < 0 := fun q => c ((zxor_neg (by omega)).mp q)
    have e := zmod_f (x := x) (y := 24) (by omega)
    simp (disch := omega) only [zen_219, e_219_0, e_219_1, e_219_2, e_219_3, e_219_4, e_219_5, e_219_6, e_219_7t, e_219_7f, e_219_10, e_219_11t, e_219_11f, e_219_14, e_219_15, e_219_16, e_219_17, e_219_18, e_219_19, zPa_some, zPn_some, zRK_some, zRK_none, zCk_t, zis_ob, zget_set_eq, zget_set_ne, zAld_10, zAld_11, zAst_10, zAst_11, zAlen_10, zAlen_11, zbd_t, zbd_f, zb_t, zb_f, zset_set]
    rw [e]
theorem s_around {d : Nat} {x : Int} {M : zM} {K : zK} (h : -2147483648 ≤ x ∧ x < 2147483648) : zC (d + 2) 143 [.int (zi x)] M K = K (some (.int (zi (x % 24)))) M := by
  simp (disch := omega) only [zen_143, e_143_0, e_143_1, e_143_3, e_143_6, zPa_some, zPn_some, zRK_some, zRK_none, zCk_t, zis_ob, zget_set_eq, zget_set_ne, zAld_10, zAld_11, zAst_10, zAst_11, zAlen_10, zAlen_11, zbd_t, zbd_f, zb_t, zb_f, zset_set, s_floorMod]
