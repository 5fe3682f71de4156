/-! the painted staff -/
theorem zor_zi (x y : Int) : zi (zor x y) = zi x ||| zi y := by unfold zor; exact Int32.ofInt_toInt _
theorem zor_assoc (x y z : Int) : zor (zor x y) z = zor x (zor y z) := by
  have : zi (zor x y) ||| zi z = zi x ||| zi (zor y z) := by rw [zor_zi, zor_zi, Int32.or_assoc]
  show (zi (zor x y) ||| zi z).toInt = (zi x ||| zi (zor y z)).toInt
  rw [this]
theorem zor_comm (x y : Int) : zor x y = zor y x := by
  show (zi x ||| zi y).toInt = (zi y ||| zi x).toInt
  rw [Int32.or_comm]
theorem zor_z0 (x y : Int) : zor x (zor y 0) = zor x y := by
  show (zi x ||| zi (zor y 0)).toInt = (zi x ||| zi y).toInt
  rw [zor_zi, show zi 0 = 0 from rfl, Int32.or_zero]
theorem zshl_0 (k : Int) : zshl 0 k = 0 := by
  unfold zshl
  rw [show zi 0 = 0 from rfl, Int32.zero_shiftLeft]
  rfl
def f_bt (P : Int → Bool) (i s : Int) : Int := zor s (zshl (zb (P i)) i)
/-- two rows of bits, side by side or one behind the other -/
theorem f_bt_acc {P : Int → Bool} : ∀ (n : Nat) (i s : Int), zfor (f_bt P) n i s = zfor (f_bt P) n i s := fun _ _ _ => rfl
theorem zor_fold {A : Int → Int} : ∀ (n : Nat) (i s t : Int), zfor (fun j s => zor s (A j)) n i (zor s t) = zor s (zfor (fun j s => zor s (A j)) n i t) := by
  intro n
  induction n with
  | zero => intro i s t; rfl
  | succ n ih =>
    intro i s t
    rw [zfor_s, zfor_s, ← ih, zor_assoc]
theorem zor_two {A B : Int → Int} : ∀ (n : Nat) (i s t : Int), zfor (fun j s => zor (zor s (A j)) (B j)) n i (zor s t) = zor (zfor (fun j s => zor s (A j)) n i s) (zfor (fun j s => zor s (B j)) n i t) := by
  intro n
  induction n with
  | zero => intro i s t; rfl
  | succ n ih =>
    intro i s t
    rw [zfor_s, zfor_s, zfor_s, ← ih]
    congr 1
    rw [zor_assoc, zor_assoc, zor_assoc, ← zor_assoc t, ← zor_assoc (A i), zor_comm t (A i), zor_assoc]
section STAFF
variable {h fu cr he re nx b c : Nat} {v w : Nat → Int} {F C D : Int → Bool} {G : Int → Int} {R : Nat → Int → Int} {M : zM}
/-- the height at the i-th spot of a line -/
def hL (G : Int → Int) (a i : Int) : Int := G (i % 8 * 24 + (a + 12 * (i / 8)) % 24)
def tL (G : Int → Int) (a : Int) : Int := mx1 (hL G a) 16 0 0
def bL (G : Int → Int) (a q : Int) : Int := zfor (f_bt (fun i => decide (tL G a - q ≤ hL G a i))) 16 0 0
theorem l_82a (hM : zget M h = some (zSo fu cr he re nx)) (hG : zget M he = some (zA 10 192 G)) (rG : ∀ j, 0 ≤ j → j < 192 → 0 ≤ G j ∧ G j ≤ 60) (a q : Int) (ha : 0 ≤ a ∧ a ≤ 23) : ∀ (n : Nat) (r t : Int) (u : Option Value), r + n = 8 → 0 ≤ r → (0 ≤ t ∧ t ≤ 60) → ∀ (d : Nat) (K : zK), Ev (d + 4) 82 9 [some (.ref h), some (.int (zi a)), some (.int (zi q)), some (.int (zi t)), some (.int (zi r)), u] [.int (zi 8), .int (zi r)] M K = Ev (d + 4) 82 43 [some (.ref h), some (.int (zi a)), some (.int (zi q)), some (.int (zi (zfor (fun r s => max s (max (G (r * 24 + a % 24)) (G (r * 24 + (a + 12) % 24)))) n r t))), some (.int (zi 8)), u] [] M K := by
  intro n
  have e := s_heightAt hM hG
  induction n with
  | zero =>
    intro r t u hr h0 ht d K
    obtain rfl : r = 8 := by omega
    simp (disch := omega) only [zen_82, e_82_0, e_82_1, e_82_2, e_82_3, e_82_5, e_82_7, e_82_9t, e_82_9f, e_82_12, e_82_13, e_82_14, e_82_16, e_82_17, e_82_20, e_82_21, e_82_23, e_82_24, e_82_26, e_82_27, e_82_30, e_82_33, e_82_36, e_82_37, e_82_40, e_82_44, e_82_46, e_82_47, e_82_49, e_82_51, e_82_53t, e_82_53f, e_82_56, e_82_58, e_82_59, e_82_61, e_82_62, e_82_65, e_82_66, e_82_67, e_82_68t, e_82_68f, e_82_71, e_82_72, e_82_75, e_82_76, e_82_79, e_82_81, e_82_82, e_82_83, e_82_85, e_82_87, e_82_88, e_82_90, e_82_91, e_82_93, e_82_94, e_82_97, e_82_98, e_82_99, e_82_100t, e_82_100f, e_82_103, e_82_104, e_82_107, e_82_108, e_82_111, e_82_113, e_82_115, e_82_116, e_82_117, e_82_118, e_82_120, e_82_123, e_82_126, e_82_128, zPa_some, zPn_some, zRK_some, zRK_none, zCk_t, zis_ob, zget_set_eq, zget_set_ne, zAld_10, zAld_11, zAst_10, zAst_11, zAlen_10, zAlen_11, zbd_t, zbd_f, zb_t, zb_f, zset_set, s_one0, s_one1, zis_so, zfor_0]
  | succ n ih =>
    intro r t u hr h0 ht d K
    have g1 := rG (r * 24 + a % 24) (by omega) (by omega)
    have g2 := rG (r * 24 + (a + 12) % 24) (by omega) (by omega)
    rw [zfor_s]
    simp (disch := omega) only [zen_82, e_82_0, e_82_1, e_82_2, e_82_3, e_82_5, e_82_7, e_82_9t, e_82_9f, e_82_12, e_82_13, e_82_14, e_82_16, e_82_17, e_82_20, e_82_21, e_82_23, e_82_24, e_82_26, e_82_27, e_82_30, e_82_33, e_82_36, e_82_37, e_82_40, e_82_44, e_82_46, e_82_47, e_82_49, e_82_51, e_82_53t, e_82_53f, e_82_56, e_82_58, e_82_59, e_82_61, e_82_62, e_82_65, e_82_66, e_82_67, e_82_68t, e_82_68f, e_82_71, e_82_72, e_82_75, e_82_76, e_82_79, e_82_81, e_82_82, e_82_83, e_82_85, e_82_87, e_82_88, e_82_90, e_82_91, e_82_93, e_82_94, e_82_97, e_82_98, e_82_99, e_82_100t, e_82_100f, e_82_103, e_82_104, e_82_107, e_82_108, e_82_111, e_82_113, e_82_115, e_82_116, e_82_117, e_82_118, e_82_120, e_82_123, e_82_126, e_82_128, zPa_some, zPn_some, zRK_some, zRK_none, zCk_t, zis_ob, zget_set_eq, zget_set_ne, zAld_10, zAld_11, zAst_10, zAst_11, zAlen_10, zAlen_11, zbd_t, zbd_f, zb_t, zb_f, zset_set, s_one0, s_one1, zis_so, hM, e, s_max]
    exact ih _ _ _ (by omega) (by omega) (by omega) d K
theorem l_82b (hM : zget M h = some (zSo fu cr he re nx)) (hG : zget M he = some (zA 10 192 G)) (rG : ∀ j, 0 ≤ j → j < 192 → 0 ≤ G j ∧ G j ≤ 60) (a q t : Int) (ha : 0 ≤ a ∧ a ≤ 23 ∧ 0 ≤ t ∧ t ≤ 60 ∧ 0 ≤ q ∧ q ≤ 20) : ∀ (n : Nat) (r s : Int), r + n = 8 → 0 ≤ r → ∀ (d : Nat) (K : zK), Ev (d + 4) 82 53 [some (.ref h), some (.int (zi a)), some (.int (zi q)), some (.int (zi t)), some (.int (zi s)), some (.int (zi r))] [.int (zi 8), .int (zi r)] M K = K (some (.int (zi (zfor (fun r s => zor (zor s (zshl (zb (decide (t - q ≤ G (r * 24 + a % 24)))) r)) (zshl (zb (decide (t - q ≤ G (r * 24 + (a + 12) % 24)))) (r + 8))) n r s)))) M := by
  intro n
  have e := s_heightAt hM hG
  induction n with
  | zero =>
    intro r s hr h0 d K
    simp (disch := omega) only [zen_82, e_82_0, e_82_1, e_82_2, e_82_3, e_82_5, e_82_7, e_82_9t, e_82_9f, e_82_12, e_82_13, e_82_14, e_82_16, e_82_17, e_82_20, e_82_21, e_82_23, e_82_24, e_82_26, e_82_27, e_82_30, e_82_33, e_82_36, e_82_37, e_82_40, e_82_43, e_82_44, e_82_46, e_82_47, e_82_49, e_82_51, e_82_53t, e_82_53f, e_82_56, e_82_58, e_82_59, e_82_61, e_82_62, e_82_65, e_82_66, e_82_67, e_82_68t, e_82_68f, e_82_71, e_82_72, e_82_75, e_82_76, e_82_79, e_82_81, e_82_82, e_82_83, e_82_85, e_82_87, e_82_88, e_82_90, e_82_91, e_82_93, e_82_94, e_82_97, e_82_98, e_82_99, e_82_100t, e_82_100f, e_82_103, e_82_104, e_82_107, e_82_108, e_82_111, e_82_113, e_82_115, e_82_116, e_82_117, e_82_118, e_82_120, e_82_123, e_82_126, e_82_128, zPa_some, zPn_some, zRK_some, zRK_none, zCk_t, zis_ob, zget_set_eq, zget_set_ne, zAld_10, zAld_11, zAst_10, zAst_11, zAlen_10, zAlen_11, zbd_t, zbd_f, zb_t, zb_f, zset_set, s_one0, s_one1, zis_so, zfor_0]
  | succ n ih =>
    intro r s hr h0 d K
    have g1 := rG (r * 24 + a % 24) (by omega) (by omega)
    have g2 := rG (r * 24 + (a + 12) % 24) (by omega) (by omega)
    rw [zfor_s, ← ih _ _ (by omega) (by omega) d K]
    by_cases c1 : t - q ≤ G (r * 24 + a % 24)
    · by_cases c2 : t - q ≤ G (r * 24 + (a + 12) % 24)
      · rw [decide_eq_true c1, decide_eq_true c2]
        simp (disch := omega) only [zen_82, e_82_0, e_82_1, e_82_2, e_82_3, e_82_5, e_82_7, e_82_9t, e_82_9f, e_82_12, e_82_13, e_82_14, e_82_16, e_82_17, e_82_20, e_82_21, e_82_23, e_82_24, e_82_26, e_82_27, e_82_30, e_82_33, e_82_36, e_82_37, e_82_40, e_82_43, e_82_44, e_82_46, e_82_47, e_82_49, e_82_51, e_82_53t, e_82_53f, e_82_56, e_82_58, e_82_59, e_82_61, e_82_62, e_82_65, e_82_66, e_82_67, e_82_68t, e_82_68f, e_82_71, e_82_72, e_82_75, e_82_76, e_82_79, e_82_81, e_82_82, e_82_83, e_82_85, e_82_87, e_82_88, e_82_90, e_82_91, e_82_93, e_82_94, e_82_97, e_82_98, e_82_99, e_82_100t, e_82_100f, e_82_103, e_82_104, e_82_107, e_82_108, e_82_111, e_82_113, e_82_115, e_82_116, e_82_117, e_82_118, e_82_120, e_82_123, e_82_126, e_82_128, zPa_some, zPn_some, zRK_some, zRK_none, zCk_t, zis_ob, zget_set_eq, zget_set_ne, zAld_10, zAld_11, zAst_10, zAst_11, zAlen_10, zAlen_11, zbd_t, zbd_f, zb_t, zb_f, zset_set, s_one0, s_one1, zis_so, hM, e, s_oneIf]
      · rw [decide_eq_true c1, decide_eq_false c2]
        simp (disch := omega) only [zen_82, e_82_0, e_82_1, e_82_2, e_82_3, e_82_5, e_82_7, e_82_9t, e_82_9f, e_82_12, e_82_13, e_82_14, e_82_16, e_82_17, e_82_20, e_82_21, e_82_23, e_82_24, e_82_26, e_82_27, e_82_30, e_82_33, e_82_36, e_82_37, e_82_40, e_82_43, e_82_44, e_82_46, e_82_47, e_82_49, e_82_51, e_82_53t, e_82_53f, e_82_56, e_82_58, e_82_59, e_82_61, e_82_62, e_82_65, e_82_66, e_82_67, e_82_68t, e_82_68f, e_82_71, e_82_72, e_82_75, e_82_76, e_82_79, e_82_81, e_82_82, e_82_83, e_82_85, e_82_87, e_82_88, e_82_90, e_82_91, e_82_93, e_82_94, e_82_97, e_82_98, e_82_99, e_82_100t, e_82_100f, e_82_103, e_82_104, e_82_107, e_82_108, e_82_111, e_82_113, e_82_115, e_82_116, e_82_117, e_82_118, e_82_120, e_82_123, e_82_126, e_82_128, zPa_some, zPn_some, zRK_some, zRK_none, zCk_t, zis_ob, zget_set_eq, zget_set_ne, zAld_10, zAld_11, zAst_10, zAst_11, zAlen_10, zAlen_11, zbd_t, zbd_f, zb_t, zb_f, zset_set, s_one0, s_one1, zis_so, hM, e, s_oneIf]
    · by_cases c2 : t - q ≤ G (r * 24 + (a + 12) % 24)
      · rw [decide_eq_false c1, decide_eq_true c2]
        simp (disch := omega) only [zen_82, e_82_0, e_82_1, e_82_2, e_82_3, e_82_5, e_82_7, e_82_9t, e_82_9f, e_82_12, e_82_13, e_82_14, e_82_16, e_82_17, e_82_20, e_82_21, e_82_23, e_82_24, e_82_26, e_82_27, e_82_30, e_82_33, e_82_36, e_82_37, e_82_40, e_82_43, e_82_44, e_82_46, e_82_47, e_82_49, e_82_51, e_82_53t, e_82_53f, e_82_56, e_82_58, e_82_59, e_82_61, e_82_62, e_82_65, e_82_66, e_82_67, e_82_68t, e_82_68f, e_82_71, e_82_72, e_82_75, e_82_76, e_82_79, e_82_81, e_82_82, e_82_83, e_82_85, e_82_87, e_82_88, e_82_90, e_82_91, e_82_93, e_82_94, e_82_97, e_82_98, e_82_99, e_82_100t, e_82_100f, e_82_103, e_82_104, e_82_107, e_82_108, e_82_111, e_82_113, e_82_115, e_82_116, e_82_117, e_82_118, e_82_120, e_82_123, e_82_126, e_82_128, zPa_some, zPn_some, zRK_some, zRK_none, zCk_t, zis_ob, zget_set_eq, zget_set_ne, zAld_10, zAld_11, zAst_10, zAst_11, zAlen_10, zAlen_11, zbd_t, zbd_f, zb_t, zb_f, zset_set, s_one0, s_one1, zis_so, hM, e, s_oneIf]
      · rw [decide_eq_false c1, decide_eq_false c2]
        simp (disch := omega) only [zen_82, e_82_0, e_82_1, e_82_2, e_82_3, e_82_5, e_82_7, e_82_9t, e_82_9f, e_82_12, e_82_13, e_82_14, e_82_16, e_82_17, e_82_20, e_82_21, e_82_23, e_82_24, e_82_26, e_82_27, e_82_30, e_82_33, e_82_36, e_82_37, e_82_40, e_82_43, e_82_44, e_82_46, e_82_47, e_82_49, e_82_51, e_82_53t, e_82_53f, e_82_56, e_82_58, e_82_59, e_82_61, e_82_62, e_82_65, e_82_66, e_82_67, e_82_68t, e_82_68f, e_82_71, e_82_72, e_82_75, e_82_76, e_82_79, e_82_81, e_82_82, e_82_83, e_82_85, e_82_87, e_82_88, e_82_90, e_82_91, e_82_93, e_82_94, e_82_97, e_82_98, e_82_99, e_82_100t, e_82_100f, e_82_103, e_82_104, e_82_107, e_82_108, e_82_111, e_82_113, e_82_115, e_82_116, e_82_117, e_82_118, e_82_120, e_82_123, e_82_126, e_82_128, zPa_some, zPn_some, zRK_some, zRK_none, zCk_t, zis_ob, zget_set_eq, zget_set_ne, zAld_10, zAld_11, zAst_10, zAst_11, zAlen_10, zAlen_11, zbd_t, zbd_f, zb_t, zb_f, zset_set, s_one0, s_one1, zis_so, hM, e, s_oneIf]
theorem tL_two (a : Int) : zfor (fun r s => max s (max (G (r * 24 + a % 24)) (G (r * 24 + (a + 12) % 24)))) 8 0 0 = tL G a := by
  have key : ∀ z, zfor (fun r s => max s (max (G (r * 24 + a % 24)) (G (r * 24 + (a + 12) % 24)))) 8 0 0 ≤ z ↔ tL G a ≤ z := by
    intro z
    rw [zfor_pred (Q := fun s => s ≤ z) (P := fun r => G (r * 24 + a % 24) ≤ z ∧ G (r * 24 + (a + 12) % 24) ≤ z) 8 0 0 (fun r s _ _ => by omega)]
    unfold tL
    rw [mx1_le]
    constructor
    · rintro ⟨q1, q2⟩
      refine ⟨q1, fun j h1 h2 => ?_⟩
      unfold hL
      by_cases c : j < 8
      · rw [show j % 8 = j by omega, show j / 8 = 0 by omega, show a + 12 * 0 = a by omega]
        exact (q2 j h1 (by omega)).1
      · rw [show j % 8 = j - 8 by omega, show j / 8 = 1 by omega, show a + 12 * 1 = a + 12 by omega]
        exact (q2 (j - 8) (by omega) (by omega)).2
    · rintro ⟨q1, q2⟩
      refine ⟨q1, fun j h1 h2 => ?_⟩
      have z1 := q2 j h1 (by omega)
      have z2 := q2 (j + 8) (by omega) (by omega)
      unfold hL at z1 z2
      rw [show j % 8 = j by omega, show j / 8 = 0 by omega, show a + 12 * 0 = a by omega] at z1
      rw [show (j + 8) % 8 = j by omega, show (j + 8) / 8 = 1 by omega, show a + 12 * 1 = a + 12 by omega] at z2
      exact ⟨z1, z2⟩
  have k1 := (key _).mp (Int.le_refl _)
  have k2 := (key _).mpr (Int.le_refl _)
  omega
theorem bL_two (a q : Int) : zfor (fun r s => zor (zor s (zshl (zb (decide (tL G a - q ≤ G (r * 24 + a % 24)))) r)) (zshl (zb (decide (tL G a - q ≤ G (r * 24 + (a + 12) % 24)))) (r + 8))) 8 0 0 = bL G a q := by
  have e1 := zor_two (A := fun r => zshl (zb (decide (tL G a - q ≤ G (r * 24 + a % 24)))) r) (B := fun r => zshl (zb (decide (tL G a - q ≤ G (r * 24 + (a + 12) % 24)))) (r + 8)) 8 0 0 0
  rw [show zor 0 0 = 0 from rfl] at e1
  rw [e1]
  unfold bL
  rw [show (16 : Nat) = 8 + 8 from rfl, zfor_app]
  have e2 : zfor (f_bt (fun i => decide (tL G a - q ≤ hL G a i))) 8 0 0 = zfor (fun r s => zor s (zshl (zb (decide (tL G a - q ≤ G (r * 24 + a % 24)))) r)) 8 0 0 := by
    refine zfor_congr 8 0 0 (fun j t h1 h2 => ?_)
    unfold f_bt hL
    dsimp only
    rw [show j % 8 = j by omega, show j / 8 = 0 by omega, show a + 12 * 0 = a by omega]
  rw [e2]
  have e3 := zfor_shift (f := f_bt (fun i => decide (tL G a - q ≤ hL G a i))) 8 8 0 (zfor (fun r s => zor s (zshl (zb (decide (tL G a - q ≤ G (r * 24 + a % 24)))) r)) 8 0 0)
  rw [show (0 : Int) + ((8 : Nat) : Int) = 8 + 0 from rfl, ← e3]
  have e4 : ∀ s, zfor (fun j => f_bt (fun i => decide (tL G a - q ≤ hL G a i)) (8 + j)) 8 0 s = zfor (fun r s => zor s (zshl (zb (decide (tL G a - q ≤ G (r * 24 + (a + 12) % 24)))) (r + 8))) 8 0 s := by
    intro s
    refine zfor_congr 8 0 s (fun j t h1 h2 => ?_)
    unfold f_bt hL
    dsimp only
    rw [show (8 + j) % 8 = j by omega, show (8 + j) / 8 = 1 by omega, show a + 12 * 1 = a + 12 by omega, Int.add_comm 8 j]
  rw [e4]
  have e5 := zor_fold (A := fun r => zshl (zb (decide (tL G a - q ≤ G (r * 24 + (a + 12) % 24)))) (r + 8)) 8 0 (zfor (fun r s => zor s (zshl (zb (decide (tL G a - q ≤ G (r * 24 + a % 24)))) r)) 8 0 0) 0
  rw [← e5]
  rw [zfor_s, zfor_s (s := zfor _ _ _ _)]
  rw [zor_assoc, zor_comm 0, ← zor_assoc]
  rw [zor_assoc, zor_z0]
theorem s_marksOnLine (hM : zget M h = some (zSo fu cr he re nx)) (hG : zget M he = some (zA 10 192 G)) (rG : ∀ j, 0 ≤ j → j < 192 → 0 ≤ G j ∧ G j ≤ 60) : ∀ (d : Nat) (a q : Int) (K : zK), (0 ≤ a ∧ a ≤ 23 ∧ 0 ≤ q ∧ q ≤ 20) → zC (d + 5) 82 [.ref h, .int (zi a), .int (zi q)] M K = K (some (.int (zi (bL G a q)))) M := by
  intro d a q K ha
  have e := l_82a hM hG rG a q (by omega) 8 0 0 none (by omega) (by omega) (by omega) d K
  have rt : 0 ≤ tL G a ∧ tL G a ≤ 60 := by
    unfold tL mx1
    refine zfor_inv (fun z => 0 ≤ z ∧ z ≤ 60) 16 0 0 (by omega) (fun j t h1 h2 h3 => ?_)
    have g := rG (j % 8 * 24 + (a + 12 * (j / 8)) % 24) (by omega) (by omega)
    unfold hL
    omega
  rw [tL_two] at e
  simp (disch := omega) only [zen_82, e_82_0, e_82_1, e_82_2, e_82_3, e_82_5, e_82_7, e_82_12, e_82_13, e_82_14, e_82_16, e_82_17, e_82_20, e_82_21, e_82_23, e_82_24, e_82_26, e_82_27, e_82_30, e_82_33, e_82_36, e_82_37, e_82_40, e_82_44, e_82_46, e_82_47, e_82_49, e_82_51, e_82_53t, e_82_53f, e_82_56, e_82_58, e_82_59, e_82_61, e_82_62, e_82_65, e_82_66, e_82_67, e_82_68t, e_82_68f, e_82_71, e_82_72, e_82_75, e_82_76, e_82_79, e_82_81, e_82_82, e_82_83, e_82_85, e_82_87, e_82_88, e_82_90, e_82_91, e_82_93, e_82_94, e_82_97, e_82_98, e_82_99, e_82_100t, e_82_100f, e_82_103, e_82_104, e_82_107, e_82_108, e_82_111, e_82_113, e_82_115, e_82_116, e_82_117, e_82_118, e_82_120, e_82_123, e_82_126, e_82_128, zPa_some, zPn_some, zRK_some, zRK_none, zCk_t, zis_ob, zget_set_eq, zget_set_ne, zAld_10, zAld_11, zAst_10, zAst_11, zAlen_10, zAlen_11, zbd_t, zbd_f, zb_t, zb_f, zset_set, s_one0, s_one1, zis_so]
  rw [e]
  simp (disch := omega) only [zen_82, e_82_0, e_82_1, e_82_2, e_82_3, e_82_5, e_82_7, e_82_12, e_82_13, e_82_14, e_82_16, e_82_17, e_82_20, e_82_21, e_82_23, e_82_24, e_82_26, e_82_27, e_82_30, e_82_33, e_82_36, e_82_37, e_82_40, e_82_43, e_82_44, e_82_46, e_82_47, e_82_49, e_82_51, e_82_56, e_82_58, e_82_59, e_82_61, e_82_62, e_82_65, e_82_66, e_82_67, e_82_68t, e_82_68f, e_82_71, e_82_72, e_82_75, e_82_76, e_82_79, e_82_81, e_82_82, e_82_83, e_82_85, e_82_87, e_82_88, e_82_90, e_82_91, e_82_93, e_82_94, e_82_97, e_82_98, e_82_99, e_82_100t, e_82_100f, e_82_103, e_82_104, e_82_107, e_82_108, e_82_111, e_82_113, e_82_115, e_82_116, e_82_117, e_82_118, e_82_120, e_82_123, e_82_126, e_82_128, zPa_some, zPn_some, zRK_some, zRK_none, zCk_t, zis_ob, zget_set_eq, zget_set_ne, zAld_10, zAld_11, zAst_10, zAst_11, zAlen_10, zAlen_11, zbd_t, zbd_f, zb_t, zb_f, zset_set, s_one0, s_one1, zis_so]
  have e2 := l_82b hM hG rG a q (tL G a) (by omega) 8 0 0 (by omega) (by omega) d K
  rw [bL_two] at e2
  exact e2
theorem lm_186a (h0 : zget M c = some (zMo c w)) (hG : zget M (c + 2) = some (zA 10 768 G)) (rG : RGh G) (k a q : Int) (ha : 0 ≤ a ∧ a ≤ 23 ∧ 0 ≤ k ∧ k ≤ 3) : ∀ (n : Nat) (i t : Int) (u : Option Value), i + n = 16 → 0 ≤ i → (0 ≤ t ∧ t ≤ 60) → ∃ u', ∀ (d : Nat) (K : zK), Ev (d + 4) 186 42 [some (.ref c), some (.int (zi k)), some (.int (zi a)), some (.int (zi q)), some (.int (zi t)), some (.int (zi i)), u] [.int (zi 16), .int (zi i)] M K = Ev (d + 4) 186 93 [some (.ref c), some (.int (zi k)), some (.int (zi a)), some (.int (zi q)), some (.int (zi (mx1 (hL (sh k G) a) n i t))), some (.int (zi 16)), u'] [] M K := by
  intro n
  induction n with
  | zero =>
    intro i t u hi q0 ht
    refine ⟨u, fun d K => ?_⟩
    obtain rfl : i = 16 := by omega
    simp (disch := omega) only [zgm_0, zgm_1, zgm_2, zgm_3, zgm_4, zgm_5, zgm_6, zgm_7, zgm_8, zgm_9, zgm_10, zgm_11, zgm_12, zgm_13, zgm_14, zgm_15, zgm_16, zgm_17, zgm_18, zgm_19, zgm_20, zgm_21, zgm_22, zgm_23, zgm_24, zgm_25, zgm_26, zgm_27, zgm_28, zgm_29, zgm_30, zgm_31, zgm_32, zgm_33, zgm_34, zgm_35, zgm_36, zgm_37, zpm_4, zpm_5, zpm_6, zpm_7, zpm_8, zpm_9, zpm_10, zpm_11, zpm_12, zpm_13, zpm_14, zpm_15, zpm_16, zpm_17, zpm_18, zpm_22, zpm_23, zpm_31, zpm_32, zpm_36, zis_mo, zuN_eq, zuN_ne, zen_186, e_186_0, e_186_1, e_186_4t, e_186_4f, e_186_7, e_186_8, e_186_11t, e_186_11f, e_186_14, e_186_16, e_186_17, e_186_18, e_186_19, e_186_20, e_186_23, e_186_26t, e_186_26f, e_186_29, e_186_31, e_186_32, e_186_33, e_186_35, e_186_36, e_186_38, e_186_40, e_186_42t, e_186_42f, e_186_45, e_186_46, e_186_49, e_186_50, e_186_52, e_186_54, e_186_55, e_186_56, e_186_58, e_186_60, e_186_62, e_186_63, e_186_64, e_186_65, e_186_68, e_186_69, e_186_71, e_186_73, e_186_75t, e_186_75f, e_186_78, e_186_80, e_186_83, e_186_85, e_186_87, e_186_90, e_186_94, e_186_96, e_186_97, e_186_99, e_186_101, e_186_103t, e_186_103f, e_186_106, e_186_108, e_186_109, e_186_112, e_186_113, e_186_115, e_186_117, e_186_118, e_186_119, e_186_121, e_186_123, e_186_125, e_186_126, e_186_127, e_186_128, e_186_131, e_186_132, e_186_134, e_186_135, e_186_136t, e_186_136f, e_186_139, e_186_140, e_186_142, e_186_143, e_186_146, e_186_147, e_186_148, e_186_150, e_186_153, e_186_156, e_186_158, zPa_some, zPn_some, zRK_some, zRK_none, zCk_t, zis_ob, zget_set_eq, zget_set_ne, zAld_10, zAld_11, zAst_10, zAst_11, zAlen_10, zAlen_11, zbd_t, zbd_f, zb_t, zb_f, zset_set, s_one0, s_one1, zis_so]
    rfl
  | succ n ih =>
    intro i t u hi q0 ht
    have g := rG (192 * k + (i % 8 * 24 + (a + 12 * (i / 8)) % 24)) (by omega) (by omega)
    have d1 := zdiv_f (x := i) (y := 8) (by omega)
    have d2 := zmod_f (x := i) (y := 8) (by omega)
    have e : 192 * k + 24 * (i % 8) + (a + 12 * (i / 8)) % 24 = 192 * k + (i % 8 * 24 + (a + 12 * (i / 8)) % 24) := by omega
    have eh : hL (sh k G) a i = G (192 * k + (i % 8 * 24 + (a + 12 * (i / 8)) % 24)) := rfl
    obtain ⟨u', hu⟩ := ih (i + 1) (max t (hL (sh k G) a i)) (some (.int (zi (hL (sh k G) a i)))) (by omega) (by omega) (by omega)
    refine ⟨u', fun d K => ?_⟩
    refine Eq.trans ?_ (hu d K)
    by_cases c1 : t < hL (sh k G) a i
    · rw [show max t (hL (sh k G) a i) = hL (sh k G) a i by omega, eh]
      rw [eh] at c1
      simp (disch := omega) only [zgm_0, zgm_1, zgm_2, zgm_3, zgm_4, zgm_5, zgm_6, zgm_7, zgm_8, zgm_9, zgm_10, zgm_11, zgm_12, zgm_13, zgm_14, zgm_15, zgm_16, zgm_17, zgm_18, zgm_19, zgm_20, zgm_21, zgm_22, zgm_23, zgm_24, zgm_25, zgm_26, zgm_27, zgm_28, zgm_29, zgm_30, zgm_31, zgm_32, zgm_33, zgm_34, zgm_35, zgm_36, zgm_37, zpm_4, zpm_5, zpm_6, zpm_7, zpm_8, zpm_9, zpm_10, zpm_11, zpm_12, zpm_13, zpm_14, zpm_15, zpm_16, zpm_17, zpm_18, zpm_22, zpm_23, zpm_31, zpm_32, zpm_36, zis_mo, zuN_eq, zuN_ne, zen_186, e_186_0, e_186_1, e_186_4t, e_186_4f, e_186_7, e_186_8, e_186_11t, e_186_11f, e_186_14, e_186_16, e_186_17, e_186_18, e_186_19, e_186_20, e_186_23, e_186_26t, e_186_26f, e_186_29, e_186_31, e_186_32, e_186_33, e_186_35, e_186_36, e_186_38, e_186_40, e_186_42t, e_186_42f, e_186_45, e_186_46, e_186_49, e_186_50, e_186_52, e_186_54, e_186_55, e_186_56, e_186_58, e_186_60, e_186_62, e_186_63, e_186_64, e_186_65, e_186_68, e_186_69, e_186_71, e_186_73, e_186_75t, e_186_75f, e_186_78, e_186_80, e_186_83, e_186_85, e_186_87, e_186_90, e_186_94, e_186_96, e_186_97, e_186_99, e_186_101, e_186_103t, e_186_103f, e_186_106, e_186_108, e_186_109, e_186_112, e_186_113, e_186_115, e_186_117, e_186_118, e_186_119, e_186_121, e_186_123, e_186_125, e_186_126, e_186_127, e_186_128, e_186_131, e_186_132, e_186_134, e_186_135, e_186_136t, e_186_136f, e_186_139, e_186_140, e_186_142, e_186_143, e_186_146, e_186_147, e_186_148, e_186_150, e_186_153, e_186_156, e_186_158, zPa_some, zPn_some, zRK_some, zRK_none, zCk_t, zis_ob, zget_set_eq, zget_set_ne, zAld_10, zAld_11, zAst_10, zAst_11, zAlen_10, zAlen_11, zbd_t, zbd_f, zb_t, zb_f, zset_set, s_one0, s_one1, zis_so, h0, hG, s_at, d1, d2, e]
    · rw [show max t (hL (sh k G) a i) = t by omega, eh]
      rw [eh] at c1
      simp (disch := omega) only [zgm_0, zgm_1, zgm_2, zgm_3, zgm_4, zgm_5, zgm_6, zgm_7, zgm_8, zgm_9, zgm_10, zgm_11, zgm_12, zgm_13, zgm_14, zgm_15, zgm_16, zgm_17, zgm_18, zgm_19, zgm_20, zgm_21, zgm_22, zgm_23, zgm_24, zgm_25, zgm_26, zgm_27, zgm_28, zgm_29, zgm_30, zgm_31, zgm_32, zgm_33, zgm_34, zgm_35, zgm_36, zgm_37, zpm_4, zpm_5, zpm_6, zpm_7, zpm_8, zpm_9, zpm_10, zpm_11, zpm_12, zpm_13, zpm_14, zpm_15, zpm_16, zpm_17, zpm_18, zpm_22, zpm_23, zpm_31, zpm_32, zpm_36, zis_mo, zuN_eq, zuN_ne, zen_186, e_186_0, e_186_1, e_186_4t, e_186_4f, e_186_7, e_186_8, e_186_11t, e_186_11f, e_186_14, e_186_16, e_186_17, e_186_18, e_186_19, e_186_20, e_186_23, e_186_26t, e_186_26f, e_186_29, e_186_31, e_186_32, e_186_33, e_186_35, e_186_36, e_186_38, e_186_40, e_186_42t, e_186_42f, e_186_45, e_186_46, e_186_49, e_186_50, e_186_52, e_186_54, e_186_55, e_186_56, e_186_58, e_186_60, e_186_62, e_186_63, e_186_64, e_186_65, e_186_68, e_186_69, e_186_71, e_186_73, e_186_75t, e_186_75f, e_186_78, e_186_80, e_186_83, e_186_85, e_186_87, e_186_90, e_186_94, e_186_96, e_186_97, e_186_99, e_186_101, e_186_103t, e_186_103f, e_186_106, e_186_108, e_186_109, e_186_112, e_186_113, e_186_115, e_186_117, e_186_118, e_186_119, e_186_121, e_186_123, e_186_125, e_186_126, e_186_127, e_186_128, e_186_131, e_186_132, e_186_134, e_186_135, e_186_136t, e_186_136f, e_186_139, e_186_140, e_186_142, e_186_143, e_186_146, e_186_147, e_186_148, e_186_150, e_186_153, e_186_156, e_186_158, zPa_some, zPn_some, zRK_some, zRK_none, zCk_t, zis_ob, zget_set_eq, zget_set_ne, zAld_10, zAld_11, zAst_10, zAst_11, zAlen_10, zAlen_11, zbd_t, zbd_f, zb_t, zb_f, zset_set, s_one0, s_one1, zis_so, h0, hG, s_at, d1, d2, e]
theorem lm_186b (h0 : zget M c = some (zMo c w)) (hG : zget M (c + 2) = some (zA 10 768 G)) (rG : RGh G) (k a q t : Int) (ha : 0 ≤ a ∧ a ≤ 23 ∧ 0 ≤ k ∧ k ≤ 3 ∧ 0 ≤ t ∧ t ≤ 60 ∧ 0 ≤ q ∧ q ≤ 20) : ∀ (n : Nat) (i s : Int), i + n = 16 → 0 ≤ i → ∀ (d : Nat) (K : zK), Ev (d + 4) 186 103 [some (.ref c), some (.int (zi k)), some (.int (zi a)), some (.int (zi q)), some (.int (zi t)), some (.int (zi s)), some (.int (zi i))] [.int (zi 16), .int (zi i)] M K = K (some (.int (zi (zfor (f_bt (fun i => decide (t - q ≤ hL (sh k G) a i))) n i s)))) M := by
  intro n
  induction n with
  | zero =>
    intro i s hi q0 d K
    simp (disch := omega) only [zgm_0, zgm_1, zgm_2, zgm_3, zgm_4, zgm_5, zgm_6, zgm_7, zgm_8, zgm_9, zgm_10, zgm_11, zgm_12, zgm_13, zgm_14, zgm_15, zgm_16, zgm_17, zgm_18, zgm_19, zgm_20, zgm_21, zgm_22, zgm_23, zgm_24, zgm_25, zgm_26, zgm_27, zgm_28, zgm_29, zgm_30, zgm_31, zgm_32, zgm_33, zgm_34, zgm_35, zgm_36, zgm_37, zpm_4, zpm_5, zpm_6, zpm_7, zpm_8, zpm_9, zpm_10, zpm_11, zpm_12, zpm_13, zpm_14, zpm_15, zpm_16, zpm_17, zpm_18, zpm_22, zpm_23, zpm_31, zpm_32, zpm_36, zis_mo, zuN_eq, zuN_ne, zen_186, e_186_0, e_186_1, e_186_4t, e_186_4f, e_186_7, e_186_8, e_186_11t, e_186_11f, e_186_14, e_186_16, e_186_17, e_186_18, e_186_19, e_186_20, e_186_23, e_186_26t, e_186_26f, e_186_29, e_186_31, e_186_32, e_186_33, e_186_35, e_186_36, e_186_38, e_186_40, e_186_42t, e_186_42f, e_186_45, e_186_46, e_186_49, e_186_50, e_186_52, e_186_54, e_186_55, e_186_56, e_186_58, e_186_60, e_186_62, e_186_63, e_186_64, e_186_65, e_186_68, e_186_69, e_186_71, e_186_73, e_186_75t, e_186_75f, e_186_78, e_186_80, e_186_83, e_186_85, e_186_87, e_186_90, e_186_93, e_186_94, e_186_96, e_186_97, e_186_99, e_186_101, e_186_103t, e_186_103f, e_186_106, e_186_108, e_186_109, e_186_112, e_186_113, e_186_115, e_186_117, e_186_118, e_186_119, e_186_121, e_186_123, e_186_125, e_186_126, e_186_127, e_186_128, e_186_131, e_186_132, e_186_134, e_186_135, e_186_136t, e_186_136f, e_186_139, e_186_140, e_186_142, e_186_143, e_186_146, e_186_147, e_186_148, e_186_150, e_186_153, e_186_156, e_186_158, zPa_some, zPn_some, zRK_some, zRK_none, zCk_t, zis_ob, zget_set_eq, zget_set_ne, zAld_10, zAld_11, zAst_10, zAst_11, zAlen_10, zAlen_11, zbd_t, zbd_f, zb_t, zb_f, zset_set, s_one0, s_one1, zis_so, zfor_0]
  | succ n ih =>
    intro i s hi q0 d K
    have g := rG (192 * k + (i % 8 * 24 + (a + 12 * (i / 8)) % 24)) (by omega) (by omega)
    have d1 := zdiv_f (x := i) (y := 8) (by omega)
    have d2 := zmod_f (x := i) (y := 8) (by omega)
    have e : 192 * k + 24 * (i % 8) + (a + 12 * (i / 8)) % 24 = 192 * k + (i % 8 * 24 + (a + 12 * (i / 8)) % 24) := by omega
    have eh : hL (sh k G) a i = G (192 * k + (i % 8 * 24 + (a + 12 * (i / 8)) % 24)) := rfl
    rw [zfor_s, ← ih _ _ (by omega) (by omega) d K]
    unfold f_bt
    dsimp only
    by_cases c1 : t - q ≤ hL (sh k G) a i
    · rw [decide_eq_true c1]
      rw [eh] at c1
      simp (disch := omega) only [zgm_0, zgm_1, zgm_2, zgm_3, zgm_4, zgm_5, zgm_6, zgm_7, zgm_8, zgm_9, zgm_10, zgm_11, zgm_12, zgm_13, zgm_14, zgm_15, zgm_16, zgm_17, zgm_18, zgm_19, zgm_20, zgm_21, zgm_22, zgm_23, zgm_24, zgm_25, zgm_26, zgm_27, zgm_28, zgm_29, zgm_30, zgm_31, zgm_32, zgm_33, zgm_34, zgm_35, zgm_36, zgm_37, zpm_4, zpm_5, zpm_6, zpm_7, zpm_8, zpm_9, zpm_10, zpm_11, zpm_12, zpm_13, zpm_14, zpm_15, zpm_16, zpm_17, zpm_18, zpm_22, zpm_23, zpm_31, zpm_32, zpm_36, zis_mo, zuN_eq, zuN_ne, zen_186, e_186_0, e_186_1, e_186_4t, e_186_4f, e_186_7, e_186_8, e_186_11t, e_186_11f, e_186_14, e_186_16, e_186_17, e_186_18, e_186_19, e_186_20, e_186_23, e_186_26t, e_186_26f, e_186_29, e_186_31, e_186_32, e_186_33, e_186_35, e_186_36, e_186_38, e_186_40, e_186_42t, e_186_42f, e_186_45, e_186_46, e_186_49, e_186_50, e_186_52, e_186_54, e_186_55, e_186_56, e_186_58, e_186_60, e_186_62, e_186_63, e_186_64, e_186_65, e_186_68, e_186_69, e_186_71, e_186_73, e_186_75t, e_186_75f, e_186_78, e_186_80, e_186_83, e_186_85, e_186_87, e_186_90, e_186_93, e_186_94, e_186_96, e_186_97, e_186_99, e_186_101, e_186_103t, e_186_103f, e_186_106, e_186_108, e_186_109, e_186_112, e_186_113, e_186_115, e_186_117, e_186_118, e_186_119, e_186_121, e_186_123, e_186_125, e_186_126, e_186_127, e_186_128, e_186_131, e_186_132, e_186_134, e_186_135, e_186_136t, e_186_136f, e_186_139, e_186_140, e_186_142, e_186_143, e_186_146, e_186_147, e_186_148, e_186_150, e_186_153, e_186_156, e_186_158, zPa_some, zPn_some, zRK_some, zRK_none, zCk_t, zis_ob, zget_set_eq, zget_set_ne, zAld_10, zAld_11, zAst_10, zAst_11, zAlen_10, zAlen_11, zbd_t, zbd_f, zb_t, zb_f, zset_set, s_one0, s_one1, zis_so, h0, hG, s_at, d1, d2, e]
    · rw [decide_eq_false c1, show zb false = 0 from rfl, zshl_0]
      rw [eh] at c1
      simp (disch := omega) only [zgm_0, zgm_1, zgm_2, zgm_3, zgm_4, zgm_5, zgm_6, zgm_7, zgm_8, zgm_9, zgm_10, zgm_11, zgm_12, zgm_13, zgm_14, zgm_15, zgm_16, zgm_17, zgm_18, zgm_19, zgm_20, zgm_21, zgm_22, zgm_23, zgm_24, zgm_25, zgm_26, zgm_27, zgm_28, zgm_29, zgm_30, zgm_31, zgm_32, zgm_33, zgm_34, zgm_35, zgm_36, zgm_37, zpm_4, zpm_5, zpm_6, zpm_7, zpm_8, zpm_9, zpm_10, zpm_11, zpm_12, zpm_13, zpm_14, zpm_15, zpm_16, zpm_17, zpm_18, zpm_22, zpm_23, zpm_31, zpm_32, zpm_36, zis_mo, zuN_eq, zuN_ne, zen_186, e_186_0, e_186_1, e_186_4t, e_186_4f, e_186_7, e_186_8, e_186_11t, e_186_11f, e_186_14, e_186_16, e_186_17, e_186_18, e_186_19, e_186_20, e_186_23, e_186_26t, e_186_26f, e_186_29, e_186_31, e_186_32, e_186_33, e_186_35, e_186_36, e_186_38, e_186_40, e_186_42t, e_186_42f, e_186_45, e_186_46, e_186_49, e_186_50, e_186_52, e_186_54, e_186_55, e_186_56, e_186_58, e_186_60, e_186_62, e_186_63, e_186_64, e_186_65, e_186_68, e_186_69, e_186_71, e_186_73, e_186_75t, e_186_75f, e_186_78, e_186_80, e_186_83, e_186_85, e_186_87, e_186_90, e_186_93, e_186_94, e_186_96, e_186_97, e_186_99, e_186_101, e_186_103t, e_186_103f, e_186_106, e_186_108, e_186_109, e_186_112, e_186_113, e_186_115, e_186_117, e_186_118, e_186_119, e_186_121, e_186_123, e_186_125, e_186_126, e_186_127, e_186_128, e_186_131, e_186_132, e_186_134, e_186_135, e_186_136t, e_186_136f, e_186_139, e_186_140, e_186_142, e_186_143, e_186_146, e_186_147, e_186_148, e_186_150, e_186_153, e_186_156, e_186_158, zPa_some, zPn_some, zRK_some, zRK_none, zCk_t, zis_ob, zget_set_eq, zget_set_ne, zAld_10, zAld_11, zAst_10, zAst_11, zAlen_10, zAlen_11, zbd_t, zbd_f, zb_t, zb_f, zset_set, s_one0, s_one1, zis_so, h0, hG, s_at, d1, d2, e]
def oStaff (G : Int → Int) (k a q : Int) : Int := if (0 ≤ k ∧ k ≤ 3) ∧ 0 ≤ a ∧ a ≤ 23 then (if 0 ≤ q ∧ q ≤ 20 then bL (sh k G) a q else -102) else -101
theorem x_staff (x : XI b v F C G R D M) (ri : RI v G R D) (k a q : Int) (hq : -2147483648 ≤ k ∧ k < 2147483648 ∧ -2147483648 ≤ a ∧ a < 2147483648 ∧ -2147483648 ≤ q ∧ q < 2147483648) : XCl b 7 114 [.ref b, .int (zi k), .int (zi a), .int (zi q)] (.int (zi (oStaff G k a q))) v F C G R D M := by
  refine XCl_p x (fun d K => ?_)
  have h0 := x.1.1
  have h1 := x.1.2.1
  unfold oStaff
  by_cases c1 : 0 ≤ k ∧ k ≤ 3
  · by_cases c2 : 0 ≤ a ∧ a ≤ 23
    · rw [if_pos ⟨c1, c2⟩]
      by_cases c3 : 0 ≤ q ∧ q ≤ 20
      · rw [if_pos c3]
        obtain ⟨q1, q2, q3, q4, -⟩ := x.2.1 k c1.1 c1.2
        have rg := RGh_sh ri.2.1 c1
        simp (disch := omega) only [zen_114, e_114_0, e_114_1, e_114_4t, e_114_4f, e_114_7, e_114_8, e_114_11t, e_114_11f, e_114_14, e_114_16, e_114_17, e_114_18, e_114_19, e_114_21, e_114_24t, e_114_24f, e_114_27, e_114_28, e_114_31, e_114_32, e_114_33, e_114_34, e_114_35, e_114_38, e_114_41, e_114_43, zgf_8_0, zPa_some, zPn_some, zRK_some, zRK_none, zCk_t, zis_ob, zget_set_eq, zget_set_ne, zAld_10, zAld_11, zAst_10, zAst_11, zAlen_10, zAlen_11, zbd_t, zbd_f, zb_t, zb_f, zset_set, s_one0, s_one1, zis_so, h0, h1, q1, s_isStoneX, s_isSectorX, s_isWithin, zAld_st, s_marksOnLine q1 q4 rg]
      · rw [if_neg c3]
        simp (disch := omega) only [zen_114, e_114_0, e_114_1, e_114_4t, e_114_4f, e_114_7, e_114_8, e_114_11t, e_114_11f, e_114_14, e_114_16, e_114_17, e_114_18, e_114_19, e_114_21, e_114_24t, e_114_24f, e_114_27, e_114_28, e_114_31, e_114_32, e_114_33, e_114_34, e_114_35, e_114_38, e_114_41, e_114_43, zgf_8_0, zPa_some, zPn_some, zRK_some, zRK_none, zCk_t, zis_ob, zget_set_eq, zget_set_ne, zAld_10, zAld_11, zAst_10, zAst_11, zAlen_10, zAlen_11, zbd_t, zbd_f, zb_t, zb_f, zset_set, s_one0, s_one1, zis_so, s_isStoneX, s_isSectorX, s_isWithin]
    · rw [if_neg (fun z => c2 z.2)]
      simp (disch := omega) only [zen_114, e_114_0, e_114_1, e_114_4t, e_114_4f, e_114_7, e_114_8, e_114_11t, e_114_11f, e_114_14, e_114_16, e_114_17, e_114_18, e_114_19, e_114_21, e_114_24t, e_114_24f, e_114_27, e_114_28, e_114_31, e_114_32, e_114_33, e_114_34, e_114_35, e_114_38, e_114_41, e_114_43, zgf_8_0, zPa_some, zPn_some, zRK_some, zRK_none, zCk_t, zis_ob, zget_set_eq, zget_set_ne, zAld_10, zAld_11, zAst_10, zAst_11, zAlen_10, zAlen_11, zbd_t, zbd_f, zb_t, zb_f, zset_set, s_one0, s_one1, zis_so, s_isStoneX, s_isSectorX]
  · rw [if_neg (fun z => c1 z.1)]
    simp (disch := omega) only [zen_114, e_114_0, e_114_1, e_114_4t, e_114_4f, e_114_7, e_114_8, e_114_11t, e_114_11f, e_114_14, e_114_16, e_114_17, e_114_18, e_114_19, e_114_21, e_114_24t, e_114_24f, e_114_27, e_114_28, e_114_31, e_114_32, e_114_33, e_114_34, e_114_35, e_114_38, e_114_41, e_114_43, zgf_8_0, zPa_some, zPn_some, zRK_some, zRK_none, zCk_t, zis_ob, zget_set_eq, zget_set_ne, zAld_10, zAld_11, zAst_10, zAst_11, zAlen_10, zAlen_11, zbd_t, zbd_f, zb_t, zb_f, zset_set, s_one0, s_one1, zis_so, s_isStoneX]
theorem m_staff (x : MI c v F C G R D M) (ri : RI v G R D) (k a q : Int) (hq : -2147483648 ≤ k ∧ k < 2147483648 ∧ -2147483648 ≤ a ∧ a < 2147483648 ∧ -2147483648 ≤ q ∧ q < 2147483648) : MCl c 7 186 [.ref c, .int (zi k), .int (zi a), .int (zi q)] (.int (zi (oStaff G k a q))) v F C G R D M := by
  refine MCl_p x (fun d K => ?_)
  obtain ⟨w, ha, h0, h1, h2, h3, -⟩ := x
  unfold oStaff
  by_cases c1 : 0 ≤ k ∧ k ≤ 3
  · by_cases c2 : 0 ≤ a ∧ a ≤ 23
    · rw [if_pos ⟨c1, c2⟩]
      by_cases c3 : 0 ≤ q ∧ q ≤ 20
      · rw [if_pos c3]
        obtain ⟨u', hu⟩ := lm_186a h0 h2 ri.2.1 k a q (by omega) 16 0 0 none (by omega) (by omega) (by omega)
        have rt : 0 ≤ tL (sh k G) a ∧ tL (sh k G) a ≤ 60 := by
          unfold tL mx1
          refine zfor_inv (fun z => 0 ≤ z ∧ z ≤ 60) 16 0 0 (by omega) (fun j t h1 h2 h3 => ?_)
          have g := ri.2.1 (192 * k + (j % 8 * 24 + (a + 12 * (j / 8)) % 24)) (by omega) (by omega)
          unfold hL sh
          omega
        simp (disch := omega) only [zgm_0, zgm_1, zgm_2, zgm_3, zgm_4, zgm_5, zgm_6, zgm_7, zgm_8, zgm_9, zgm_10, zgm_11, zgm_12, zgm_13, zgm_14, zgm_15, zgm_16, zgm_17, zgm_18, zgm_19, zgm_20, zgm_21, zgm_22, zgm_23, zgm_24, zgm_25, zgm_26, zgm_27, zgm_28, zgm_29, zgm_30, zgm_31, zgm_32, zgm_33, zgm_34, zgm_35, zgm_36, zgm_37, zpm_4, zpm_5, zpm_6, zpm_7, zpm_8, zpm_9, zpm_10, zpm_11, zpm_12, zpm_13, zpm_14, zpm_15, zpm_16, zpm_17, zpm_18, zpm_22, zpm_23, zpm_31, zpm_32, zpm_36, zis_mo, zuN_eq, zuN_ne, zen_186, e_186_0, e_186_1, e_186_4t, e_186_4f, e_186_7, e_186_8, e_186_11t, e_186_11f, e_186_14, e_186_16, e_186_17, e_186_18, e_186_19, e_186_20, e_186_23, e_186_26t, e_186_26f, e_186_29, e_186_31, e_186_32, e_186_33, e_186_35, e_186_36, e_186_38, e_186_40, e_186_45, e_186_46, e_186_49, e_186_50, e_186_52, e_186_54, e_186_55, e_186_56, e_186_58, e_186_60, e_186_62, e_186_63, e_186_64, e_186_65, e_186_68, e_186_69, e_186_71, e_186_73, e_186_75t, e_186_75f, e_186_78, e_186_80, e_186_83, e_186_85, e_186_87, e_186_90, e_186_93, e_186_94, e_186_96, e_186_97, e_186_99, e_186_101, e_186_103t, e_186_103f, e_186_106, e_186_108, e_186_109, e_186_112, e_186_113, e_186_115, e_186_117, e_186_118, e_186_119, e_186_121, e_186_123, e_186_125, e_186_126, e_186_127, e_186_128, e_186_131, e_186_132, e_186_134, e_186_135, e_186_136t, e_186_136f, e_186_139, e_186_140, e_186_142, e_186_143, e_186_146, e_186_147, e_186_148, e_186_150, e_186_153, e_186_156, e_186_158, zPa_some, zPn_some, zRK_some, zRK_none, zCk_t, zis_ob, zget_set_eq, zget_set_ne, zAld_10, zAld_11, zAst_10, zAst_11, zAlen_10, zAlen_11, zbd_t, zbd_f, zb_t, zb_f, zset_set, s_one0, s_one1, zis_so, s_isStoneM, s_isSectorM, s_in]
        rw [hu (d + 2)]
        simp (disch := omega) only [zgm_0, zgm_1, zgm_2, zgm_3, zgm_4, zgm_5, zgm_6, zgm_7, zgm_8, zgm_9, zgm_10, zgm_11, zgm_12, zgm_13, zgm_14, zgm_15, zgm_16, zgm_17, zgm_18, zgm_19, zgm_20, zgm_21, zgm_22, zgm_23, zgm_24, zgm_25, zgm_26, zgm_27, zgm_28, zgm_29, zgm_30, zgm_31, zgm_32, zgm_33, zgm_34, zgm_35, zgm_36, zgm_37, zpm_4, zpm_5, zpm_6, zpm_7, zpm_8, zpm_9, zpm_10, zpm_11, zpm_12, zpm_13, zpm_14, zpm_15, zpm_16, zpm_17, zpm_18, zpm_22, zpm_23, zpm_31, zpm_32, zpm_36, zis_mo, zuN_eq, zuN_ne, zen_186, e_186_0, e_186_1, e_186_4t, e_186_4f, e_186_7, e_186_8, e_186_11t, e_186_11f, e_186_14, e_186_16, e_186_17, e_186_18, e_186_19, e_186_20, e_186_23, e_186_26t, e_186_26f, e_186_29, e_186_31, e_186_32, e_186_33, e_186_35, e_186_36, e_186_38, e_186_40, e_186_45, e_186_46, e_186_49, e_186_50, e_186_52, e_186_54, e_186_55, e_186_56, e_186_58, e_186_60, e_186_62, e_186_63, e_186_64, e_186_65, e_186_68, e_186_69, e_186_71, e_186_73, e_186_75t, e_186_75f, e_186_78, e_186_80, e_186_83, e_186_85, e_186_87, e_186_90, e_186_93, e_186_94, e_186_96, e_186_97, e_186_99, e_186_101, e_186_106, e_186_108, e_186_109, e_186_112, e_186_113, e_186_115, e_186_117, e_186_118, e_186_119, e_186_121, e_186_123, e_186_125, e_186_126, e_186_127, e_186_128, e_186_131, e_186_132, e_186_134, e_186_135, e_186_136t, e_186_136f, e_186_139, e_186_140, e_186_142, e_186_143, e_186_146, e_186_147, e_186_148, e_186_150, e_186_153, e_186_156, e_186_158, zPa_some, zPn_some, zRK_some, zRK_none, zCk_t, zis_ob, zget_set_eq, zget_set_ne, zAld_10, zAld_11, zAst_10, zAst_11, zAlen_10, zAlen_11, zbd_t, zbd_f, zb_t, zb_f, zset_set, s_one0, s_one1, zis_so]
        exact lm_186b h0 h2 ri.2.1 k a q (tL (sh k G) a) (by omega) 16 0 0 (by omega) (by omega) (d + 2) K
      · rw [if_neg c3]
        simp (disch := omega) only [zgm_0, zgm_1, zgm_2, zgm_3, zgm_4, zgm_5, zgm_6, zgm_7, zgm_8, zgm_9, zgm_10, zgm_11, zgm_12, zgm_13, zgm_14, zgm_15, zgm_16, zgm_17, zgm_18, zgm_19, zgm_20, zgm_21, zgm_22, zgm_23, zgm_24, zgm_25, zgm_26, zgm_27, zgm_28, zgm_29, zgm_30, zgm_31, zgm_32, zgm_33, zgm_34, zgm_35, zgm_36, zgm_37, zpm_4, zpm_5, zpm_6, zpm_7, zpm_8, zpm_9, zpm_10, zpm_11, zpm_12, zpm_13, zpm_14, zpm_15, zpm_16, zpm_17, zpm_18, zpm_22, zpm_23, zpm_31, zpm_32, zpm_36, zis_mo, zuN_eq, zuN_ne, zen_186, e_186_0, e_186_1, e_186_4t, e_186_4f, e_186_7, e_186_8, e_186_11t, e_186_11f, e_186_14, e_186_16, e_186_17, e_186_18, e_186_19, e_186_20, e_186_23, e_186_26t, e_186_26f, e_186_29, e_186_31, e_186_32, e_186_33, e_186_35, e_186_36, e_186_38, e_186_40, e_186_42t, e_186_42f, e_186_45, e_186_46, e_186_49, e_186_50, e_186_52, e_186_54, e_186_55, e_186_56, e_186_58, e_186_60, e_186_62, e_186_63, e_186_64, e_186_65, e_186_68, e_186_69, e_186_71, e_186_73, e_186_75t, e_186_75f, e_186_78, e_186_80, e_186_83, e_186_85, e_186_87, e_186_90, e_186_93, e_186_94, e_186_96, e_186_97, e_186_99, e_186_101, e_186_103t, e_186_103f, e_186_106, e_186_108, e_186_109, e_186_112, e_186_113, e_186_115, e_186_117, e_186_118, e_186_119, e_186_121, e_186_123, e_186_125, e_186_126, e_186_127, e_186_128, e_186_131, e_186_132, e_186_134, e_186_135, e_186_136t, e_186_136f, e_186_139, e_186_140, e_186_142, e_186_143, e_186_146, e_186_147, e_186_148, e_186_150, e_186_153, e_186_156, e_186_158, zPa_some, zPn_some, zRK_some, zRK_none, zCk_t, zis_ob, zget_set_eq, zget_set_ne, zAld_10, zAld_11, zAst_10, zAst_11, zAlen_10, zAlen_11, zbd_t, zbd_f, zb_t, zb_f, zset_set, s_one0, s_one1, zis_so, s_isStoneM, s_isSectorM, s_in]
    · rw [if_neg (fun z => c2 z.2)]
      simp (disch := omega) only [zgm_0, zgm_1, zgm_2, zgm_3, zgm_4, zgm_5, zgm_6, zgm_7, zgm_8, zgm_9, zgm_10, zgm_11, zgm_12, zgm_13, zgm_14, zgm_15, zgm_16, zgm_17, zgm_18, zgm_19, zgm_20, zgm_21, zgm_22, zgm_23, zgm_24, zgm_25, zgm_26, zgm_27, zgm_28, zgm_29, zgm_30, zgm_31, zgm_32, zgm_33, zgm_34, zgm_35, zgm_36, zgm_37, zpm_4, zpm_5, zpm_6, zpm_7, zpm_8, zpm_9, zpm_10, zpm_11, zpm_12, zpm_13, zpm_14, zpm_15, zpm_16, zpm_17, zpm_18, zpm_22, zpm_23, zpm_31, zpm_32, zpm_36, zis_mo, zuN_eq, zuN_ne, zen_186, e_186_0, e_186_1, e_186_4t, e_186_4f, e_186_7, e_186_8, e_186_11t, e_186_11f, e_186_14, e_186_16, e_186_17, e_186_18, e_186_19, e_186_20, e_186_23, e_186_26t, e_186_26f, e_186_29, e_186_31, e_186_32, e_186_33, e_186_35, e_186_36, e_186_38, e_186_40, e_186_42t, e_186_42f, e_186_45, e_186_46, e_186_49, e_186_50, e_186_52, e_186_54, e_186_55, e_186_56, e_186_58, e_186_60, e_186_62, e_186_63, e_186_64, e_186_65, e_186_68, e_186_69, e_186_71, e_186_73, e_186_75t, e_186_75f, e_186_78, e_186_80, e_186_83, e_186_85, e_186_87, e_186_90, e_186_93, e_186_94, e_186_96, e_186_97, e_186_99, e_186_101, e_186_103t, e_186_103f, e_186_106, e_186_108, e_186_109, e_186_112, e_186_113, e_186_115, e_186_117, e_186_118, e_186_119, e_186_121, e_186_123, e_186_125, e_186_126, e_186_127, e_186_128, e_186_131, e_186_132, e_186_134, e_186_135, e_186_136t, e_186_136f, e_186_139, e_186_140, e_186_142, e_186_143, e_186_146, e_186_147, e_186_148, e_186_150, e_186_153, e_186_156, e_186_158, zPa_some, zPn_some, zRK_some, zRK_none, zCk_t, zis_ob, zget_set_eq, zget_set_ne, zAld_10, zAld_11, zAst_10, zAst_11, zAlen_10, zAlen_11, zbd_t, zbd_f, zb_t, zb_f, zset_set, s_one0, s_one1, zis_so, s_isStoneM, s_isSectorM]
  · rw [if_neg (fun z => c1 z.1)]
    simp (disch := omega) only [zgm_0, zgm_1, zgm_2, zgm_3, zgm_4, zgm_5, zgm_6, zgm_7, zgm_8, zgm_9, zgm_10, zgm_11, zgm_12, zgm_13, zgm_14, zgm_15, zgm_16, zgm_17, zgm_18, zgm_19, zgm_20, zgm_21, zgm_22, zgm_23, zgm_24, zgm_25, zgm_26, zgm_27, zgm_28, zgm_29, zgm_30, zgm_31, zgm_32, zgm_33, zgm_34, zgm_35, zgm_36, zgm_37, zpm_4, zpm_5, zpm_6, zpm_7, zpm_8, zpm_9, zpm_10, zpm_11, zpm_12, zpm_13, zpm_14, zpm_15, zpm_16, zpm_17, zpm_18, zpm_22, zpm_23, zpm_31, zpm_32, zpm_36, zis_mo, zuN_eq, zuN_ne, zen_186, e_186_0, e_186_1, e_186_4t, e_186_4f, e_186_7, e_186_8, e_186_11t, e_186_11f, e_186_14, e_186_16, e_186_17, e_186_18, e_186_19, e_186_20, e_186_23, e_186_26t, e_186_26f, e_186_29, e_186_31, e_186_32, e_186_33, e_186_35, e_186_36, e_186_38, e_186_40, e_186_42t, e_186_42f, e_186_45, e_186_46, e_186_49, e_186_50, e_186_52, e_186_54, e_186_55, e_186_56, e_186_58, e_186_60, e_186_62, e_186_63, e_186_64, e_186_65, e_186_68, e_186_69, e_186_71, e_186_73, e_186_75t, e_186_75f, e_186_78, e_186_80, e_186_83, e_186_85, e_186_87, e_186_90, e_186_93, e_186_94, e_186_96, e_186_97, e_186_99, e_186_101, e_186_103t, e_186_103f, e_186_106, e_186_108, e_186_109, e_186_112, e_186_113, e_186_115, e_186_117, e_186_118, e_186_119, e_186_121, e_186_123, e_186_125, e_186_126, e_186_127, e_186_128, e_186_131, e_186_132, e_186_134, e_186_135, e_186_136t, e_186_136f, e_186_139, e_186_140, e_186_142, e_186_143, e_186_146, e_186_147, e_186_148, e_186_150, e_186_153, e_186_156, e_186_158, zPa_some, zPn_some, zRK_some, zRK_none, zCk_t, zis_ob, zget_set_eq, zget_set_ne, zAld_10, zAld_11, zAst_10, zAst_11, zAlen_10, zAlen_11, zbd_t, zbd_f, zb_t, zb_f, zset_set, s_one0, s_one1, zis_so, s_isStoneM]
end STAFF
