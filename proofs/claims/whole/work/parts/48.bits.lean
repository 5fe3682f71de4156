/-! sets of mills are bits -/
def bt (S m : Int) : Bool := S.toNat.testBit m.toNat
def pw (m : Int) : Int := ((2 ^ m.toNat : Nat) : Int)
theorem zi_toNat {x : Int} (h : 0 ≤ x ∧ x < 2147483648) : (zi x).toBitVec.toNat = x.toNat := by
  have h1 : (zi x).toInt = x := zi_toInt (by omega) (by omega)
  have h2 : (zi x).toInt = (zi x).toBitVec.toInt := rfl
  rw [h2, BitVec.toInt_eq_toNat_cond] at h1
  have h3 := (zi x).toBitVec.isLt
  split at h1 <;> omega
theorem zand_nat {x y : Int} (h : 0 ≤ x ∧ x < 2147483648 ∧ 0 ≤ y ∧ y < 2147483648) : zand x y = ((x.toNat &&& y.toNat : Nat) : Int) := by
  unfold zand
  have e1 : (zi x &&& zi y).toBitVec.toNat = x.toNat &&& y.toNat := by
    rw [Int32.toBitVec_and, BitVec.toNat_and, zi_toNat (by omega), zi_toNat (by omega)]
  have h2 : (zi x &&& zi y).toInt = (zi x &&& zi y).toBitVec.toInt := rfl
  rw [h2, BitVec.toInt_eq_toNat_cond, e1]
  have h4 : x.toNat &&& y.toNat ≤ x.toNat := Nat.and_le_left
  rw [if_pos (by omega)]
theorem zor_nat {x y : Int} (h : 0 ≤ x ∧ x < 64 ∧ 0 ≤ y ∧ y < 64) : zor x y = ((x.toNat ||| y.toNat : Nat) : Int) := by
  unfold zor
  have e1 : (zi x ||| zi y).toBitVec.toNat = x.toNat ||| y.toNat := by
    rw [Int32.toBitVec_or, BitVec.toNat_or, zi_toNat (by omega), zi_toNat (by omega)]
  have h2 : (zi x ||| zi y).toInt = (zi x ||| zi y).toBitVec.toInt := rfl
  rw [h2, BitVec.toInt_eq_toNat_cond, e1]
  have h4 : x.toNat ||| y.toNat < 2 ^ 6 := Nat.or_lt_two_pow (by omega) (by omega)
  rw [if_pos (by omega)]
theorem zor_rng {x y : Int} (h : 0 ≤ x ∧ x < 64 ∧ 0 ≤ y ∧ y < 64) : 0 ≤ zor x y ∧ zor x y < 64 := by
  rw [zor_nat h]
  have h4 : x.toNat ||| y.toNat < 2 ^ 6 := Nat.or_lt_two_pow (by omega) (by omega)
  omega
theorem bt_or {x y m : Int} (h : 0 ≤ x ∧ x < 64 ∧ 0 ≤ y ∧ y < 64) : bt (zor x y) m = (bt x m || bt y m) := by
  unfold bt
  rw [zor_nat h, Int.toNat_natCast, Nat.testBit_or]
theorem zand_rng {x y : Int} (h : 0 ≤ x ∧ x < 64 ∧ 0 ≤ y ∧ y < 64) : 0 ≤ zand x y ∧ zand x y < 64 := by
  rw [zand_nat (by omega)]
  have h4 : x.toNat &&& y.toNat ≤ x.toNat := Nat.and_le_left
  omega
theorem bt_and {x y m : Int} (h : 0 ≤ x ∧ x < 64 ∧ 0 ≤ y ∧ y < 64) : bt (zand x y) m = (bt x m && bt y m) := by
  unfold bt
  rw [zand_nat (by omega), Int.toNat_natCast, Nat.testBit_and]
theorem bt_ext {x y : Int} (h : 0 ≤ x ∧ x < 64 ∧ 0 ≤ y ∧ y < 64) (e : ∀ m, 0 ≤ m → m < 6 → bt x m = bt y m) : x = y := by
  have : x.toNat = y.toNat := by
    refine Nat.eq_of_testBit_eq (fun i => ?_)
    by_cases c : i < 6
    · have := e (i : Int) (by omega) (by omega)
      unfold bt at this
      rw [Int.toNat_natCast] at this
      exact this
    · rw [Nat.testBit_lt_two_pow (Nat.lt_of_lt_of_le (show x.toNat < 2 ^ 6 by omega) (Nat.pow_le_pow_right (by omega) (by omega))), Nat.testBit_lt_two_pow (Nat.lt_of_lt_of_le (show y.toNat < 2 ^ 6 by omega) (Nat.pow_le_pow_right (by omega) (by omega)))]
  omega
theorem bt_0 {m : Int} : bt 0 m = false := by
  unfold bt
  exact Nat.zero_testBit _
theorem bits_shl : ∀ m : Fin 6, zshl 1 (m : Nat) = pw (m : Nat) := by decide
theorem zshl_pw {m : Int} (h : 0 ≤ m ∧ m < 6) : zshl 1 m = pw m := by
  have := bits_shl ⟨m.toNat, by omega⟩
  dsimp only at this
  rw [Int.toNat_of_nonneg h.1] at this
  exact this
theorem pw_rng {m : Int} (h : 0 ≤ m ∧ m < 6) : 1 ≤ pw m ∧ pw m ≤ 32 := by
  have q : m = 0 ∨ m = 1 ∨ m = 2 ∨ m = 3 ∨ m = 4 ∨ m = 5 := by omega
  rcases q with rfl | rfl | rfl | rfl | rfl | rfl <;> decide
theorem bt_pw {m j : Int} (h : 0 ≤ m ∧ m < 6 ∧ 0 ≤ j) : bt (pw m) j = decide (m = j) := by
  unfold bt pw
  rw [Int.toNat_natCast, Nat.testBit_two_pow]
  by_cases c : m = j
  · rw [decide_eq_true c, decide_eq_true (by omega)]
  · rw [decide_eq_false c, decide_eq_false (by omega)]
theorem zshl_zb {b : Bool} {m : Int} (h : 0 ≤ m ∧ m < 6) : zshl (zb b) m = if b = true then pw m else 0 := by
  cases b with
  | true => exact zshl_pw h
  | false => exact zshl_0 m
theorem bits_shr : ∀ m : Fin 6, ∀ S : Fin 64, zand (zshr (S : Nat) (m : Nat)) 1 = (if (S : Nat).testBit m then 1 else 0) := by decide
theorem zshr_bt {S m : Int} (h : 0 ≤ S ∧ S < 64 ∧ 0 ≤ m ∧ m < 6) : zand (zshr S m) 1 = zb (bt S m) := by
  have := bits_shr ⟨m.toNat, by omega⟩ ⟨S.toNat, by omega⟩
  dsimp only at this
  rw [Int.toNat_of_nonneg h.1, Int.toNat_of_nonneg h.2.2.1] at this
  rw [this]
  unfold bt
  cases S.toNat.testBit m.toNat <;> rfl
theorem bits_and : ∀ m : Fin 6, ∀ S : Fin 64, zand (S : Nat) (pw (m : Nat)) = (if (S : Nat).testBit m then pw (m : Nat) else 0) := by decide
theorem zand_pw {S m : Int} (h : 0 ≤ S ∧ S < 64 ∧ 0 ≤ m ∧ m < 6) : zand S (pw m) = if bt S m = true then pw m else 0 := by
  have := bits_and ⟨m.toNat, by omega⟩ ⟨S.toNat, by omega⟩
  dsimp only at this
  rw [Int.toNat_of_nonneg h.1, Int.toNat_of_nonneg h.2.2.1] at this
  exact this
/-- a set without a mill -/
def rs (S m : Int) : Int := if bt S m = true then S - pw m else S
theorem bits_rest : ∀ m : Fin 6, ∀ S : Fin 64, zand (S : Nat) (zxor (pw (m : Nat)) (-1)) = (if (S : Nat).testBit m then ((S : Nat) : Int) - pw (m : Nat) else (S : Nat)) := by decide
theorem zand_rest {S m : Int} (h : 0 ≤ S ∧ S < 64 ∧ 0 ≤ m ∧ m < 6) : zand S (zxor (pw m) (-1)) = rs S m := by
  have := bits_rest ⟨m.toNat, by omega⟩ ⟨S.toNat, by omega⟩
  dsimp only at this
  rw [Int.toNat_of_nonneg h.1, Int.toNat_of_nonneg h.2.2.1] at this
  exact this
theorem bits_rs : ∀ m : Fin 6, ∀ S : Fin 64, ∀ j : Fin 6, ((S : Nat).testBit m = true → 2 ^ (m : Nat) ≤ (S : Nat)) ∧ (if (S : Nat).testBit m then (S : Nat) - 2 ^ (m : Nat) else (S : Nat)).testBit j = ((S : Nat).testBit j && !decide (j = m)) := by decide
theorem rs_rng {S m : Int} (h : 0 ≤ S ∧ S < 64 ∧ 0 ≤ m ∧ m < 6) : 0 ≤ rs S m ∧ rs S m ≤ S ∧ (bt S m = true → rs S m < S) := by
  have := (bits_rs ⟨m.toNat, by omega⟩ ⟨S.toNat, by omega⟩ ⟨0, by omega⟩).1
  dsimp only at this
  have p := pw_rng (m := m) (by omega)
  unfold rs
  by_cases c : bt S m = true
  · have q : pw m ≤ S := by
      have := this c
      unfold pw
      omega
    rw [if_pos c]
    omega
  · rw [if_neg c]
    exact ⟨by omega, by omega, fun z => absurd z c⟩
theorem bt_rs {S m j : Int} (h : 0 ≤ S ∧ S < 64 ∧ 0 ≤ m ∧ m < 6 ∧ 0 ≤ j ∧ j < 6) : bt (rs S m) j = (bt S j && !decide (j = m)) := by
  have := (bits_rs ⟨m.toNat, by omega⟩ ⟨S.toNat, by omega⟩ ⟨j.toNat, by omega⟩).2
  dsimp only at this
  have e : (rs S m).toNat = if S.toNat.testBit m.toNat then S.toNat - 2 ^ m.toNat else S.toNat := by
    unfold rs bt pw
    cases S.toNat.testBit m.toNat with
    | true => rw [if_pos rfl, if_pos rfl]; omega
    | false => rw [if_neg (by decide), if_neg (by decide)]
  unfold bt
  rw [e, this]
  congr 2
  by_cases c : j = m
  · rw [decide_eq_true c, decide_eq_true (by apply Fin.ext; dsimp only; omega)]
  · rw [decide_eq_false c, decide_eq_false (fun z => by have := congrArg Fin.val z; dsimp only at this; omega)]
theorem s_has {d : Nat} {S m : Int} {M : zM} {K : zK} (h : 0 ≤ S ∧ S < 64 ∧ 0 ≤ m ∧ m < 6) : zC (d + 1) 53 [.int (zi S), .int (zi m)] M K = K (some (.int (zi (zb (bt S m))))) M := by
  have e := zshr_bt h
  cases c : bt S m with
  | true =>
    rw [c] at e
    have e2 : zand (zshr S m) 1 = 1 := e
    simp (disch := omega) only [zen_53, e_53_0, e_53_1, e_53_2, e_53_3, e_53_4, e_53_5, e_53_6t, e_53_6f, e_53_9, e_53_10, e_53_13, e_53_14, zPa_some, zPn_some, zRK_some, zRK_none, zCk_t, zis_ob, zget_set_eq, zget_set_ne, zAld_10, zAld_11, zAst_10, zAst_11, zAlen_10, zAlen_11, zbd_t, zbd_f, zb_t, zb_f, zset_set, s_one0, s_one1, zis_so, e2]
  | false =>
    rw [c] at e
    have e2 : zand (zshr S m) 1 = 0 := e
    simp (disch := omega) only [zen_53, e_53_0, e_53_1, e_53_2, e_53_3, e_53_4, e_53_5, e_53_6t, e_53_6f, e_53_9, e_53_10, e_53_13, e_53_14, zPa_some, zPn_some, zRK_some, zRK_none, zCk_t, zis_ob, zget_set_eq, zget_set_ne, zAld_10, zAld_11, zAst_10, zAst_11, zAlen_10, zAlen_11, zbd_t, zbd_f, zb_t, zb_f, zset_set, s_one0, s_one1, zis_so, e2]
/-- the set of the mills that P holds of -/
def stP (P : Int → Bool) : Int := zfor (fun m s => zor s (if P m = true then pw m else 0)) 6 0 0
theorem stP_inv (P : Int → Bool) : ∀ (n : Nat) (i s : Int), 0 ≤ i → i + n ≤ 6 → (0 ≤ s ∧ s < 64) → (0 ≤ zfor (fun m s => zor s (if P m = true then pw m else 0)) n i s ∧ zfor (fun m s => zor s (if P m = true then pw m else 0)) n i s < 64) ∧ ∀ j, 0 ≤ j → (bt (zfor (fun m s => zor s (if P m = true then pw m else 0)) n i s) j = true ↔ bt s j = true ∨ (i ≤ j ∧ j < i + n ∧ P j = true)) := by
  intro n
  induction n with
  | zero =>
    intro i s h0 h1 hs
    rw [zfor_0]
    exact ⟨hs, fun j hj => ⟨Or.inl, fun q => q.elim id (fun z => by omega)⟩⟩
  | succ n ih =>
    intro i s h0 h1 hs
    have p := pw_rng (m := i) (by omega)
    have r : 0 ≤ (if P i = true then pw i else 0) ∧ (if P i = true then pw i else 0) < 64 := by split <;> omega
    have z := zor_rng (x := s) (y := if P i = true then pw i else 0) ⟨hs.1, hs.2, r.1, r.2⟩
    obtain ⟨a1, a2⟩ := ih (i + 1) (zor s (if P i = true then pw i else 0)) (by omega) (by omega) z
    rw [zfor_s]
    refine ⟨a1, fun j hj => ?_⟩
    rw [a2 j hj, bt_or ⟨hs.1, hs.2, r.1, r.2⟩, Bool.or_eq_true_iff]
    constructor
    · rintro ((q | q) | ⟨q1, q2, q3⟩)
      · exact Or.inl q
      · cases c : P i with
        | true =>
          rw [c, if_pos rfl, bt_pw (by omega)] at q
          have := of_decide_eq_true q
          subst this
          exact Or.inr ⟨by omega, by omega, c⟩
        | false =>
          rw [c, if_neg (by decide), bt_0] at q
          cases q
      · exact Or.inr ⟨by omega, by omega, q3⟩
    · rintro (q | ⟨q1, q2, q3⟩)
      · exact Or.inl (Or.inl q)
      · by_cases c : j = i
        · subst c
          refine Or.inl (Or.inr ?_)
          rw [q3, if_pos rfl, bt_pw (by omega)]
          exact decide_eq_true rfl
        · exact Or.inr ⟨by omega, by omega, q3⟩
theorem stP_rng (P : Int → Bool) : 0 ≤ stP P ∧ stP P < 64 := (stP_inv P 6 0 0 (by omega) (by omega) (by omega)).1
theorem bt_stP {P : Int → Bool} {j : Int} (h : 0 ≤ j ∧ j < 6) : bt (stP P) j = P j := by
  have := (stP_inv P 6 0 0 (by omega) (by omega) (by omega)).2 j h.1
  rw [bt_0] at this
  rw [Bool.eq_iff_iff]
  unfold stP
  rw [this]
  exact ⟨fun q => q.elim (fun z => by cases z) (fun z => z.2.2), fun q => Or.inr ⟨h.1, by omega, q⟩⟩
