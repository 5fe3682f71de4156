/-! a stone's reads and small writes -/
def zfor {σ : Type} (f : Int → σ → σ) : Nat → Int → σ → σ
  | 0, _, s => s
  | n + 1, i, s => zfor f n (i + 1) (f i s)
theorem zfor_0 {σ : Type} (f : Int → σ → σ) (i : Int) (s : σ) : zfor f 0 i s = s := rfl
theorem zfor_s {σ : Type} (f : Int → σ → σ) (n : Nat) (i : Int) (s : σ) : zfor f (n + 1) i s = zfor f n (i + 1) (f i s) := rfl
def zAb (n : Nat) (F : Int → Bool) : zE := zA 11 n (fun j => zb (F j))
theorem zAld_b {n : Nat} {F : Int → Bool} {i : Int} (c : 0 ≤ i ∧ i < n ∧ n ≤ 100000) : zAld 11 (some (zAb n F)) (zi i) = some (.int (zi (zb (F i)))) := zAld_11 c
theorem zAst_b {M : zM} {a n : Nat} {F : Int → Bool} {i : Int} {v : Bool} (c : 0 ≤ i ∧ i < n ∧ n ≤ 100000) : zAst M a (some (zAb n F)) (zi i) (.int (zi (zb v))) 11 = some (zset M a (zAb n (fun j => if j = i then v else F j))) := by
  have h := zb_rng v
  unfold zAb
  rw [zAst_11 ⟨c.1, c.2.1, c.2.2, h.1, h.2⟩]
  congr 3
  funext j
  unfold zu
  by_cases hj : j = i <;> simp [hj]
theorem zAst_b1 {M : zM} {a n : Nat} {F : Int → Bool} {i : Int} (c : 0 ≤ i ∧ i < n ∧ n ≤ 100000) : zAst M a (some (zAb n F)) (zi i) (.int (zi 1)) 11 = some (zset M a (zAb n (fun j => if j = i then true else F j))) := zAst_b (v := true) c
theorem zAst_b0 {M : zM} {a n : Nat} {F : Int → Bool} {i : Int} (c : 0 ≤ i ∧ i < n ∧ n ≤ 100000) : zAst M a (some (zAb n F)) (zi i) (.int (zi 0)) 11 = some (zset M a (zAb n (fun j => if j = i then false else F j))) := zAst_b (v := false) c
def zSo (fu cr he re nx : Nat) : zE := zOb 6 [.ref fu, .ref cr, .ref he, .ref re, .ref nx]
theorem zis_so {fu cr he re nx : Nat} : zis (some (zSo fu cr he re nx)) 6 = true := rfl
section STONE
variable {h fu cr he re nx : Nat} {M : zM} {F C : Int → Bool} {G : Int → Int}
theorem s_oneIf {b : Bool} : ∀ (d : Nat) (K : zK), zC (d + 1) 142 [.int (zi (zb b))] M K = K (some (.int (zi (zb b)))) M := by
  intro d K
  cases b
  · simp (disch := omega) only [zen_142, e_142_0, e_142_1t, e_142_1f, e_142_4, e_142_5, e_142_8, e_142_9, zPa_some, zPn_some, zRK_some, zRK_none, zCk_t, zis_ob, zget_set_eq, zget_set_ne, zAld_10, zAld_11, zAst_10, zAst_11, zAlen_10, zAlen_11, zbd_t, zbd_f, zb_t, zb_f, zset_set]
  · simp (disch := omega) only [zen_142, e_142_0, e_142_1t, e_142_1f, e_142_4, e_142_5, e_142_8, e_142_9, zPa_some, zPn_some, zRK_some, zRK_none, zCk_t, zis_ob, zget_set_eq, zget_set_ne, zAld_10, zAld_11, zAst_10, zAst_11, zAlen_10, zAlen_11, zbd_t, zbd_f, zb_t, zb_f, zset_set]
theorem s_one0 : ∀ (d : Nat) (K : zK), zC (d + 1) 142 [.int (zi 0)] M K = K (some (.int (zi 0))) M := s_oneIf (b := false)
theorem s_one1 : ∀ (d : Nat) (K : zK), zC (d + 1) 142 [.int (zi 1)] M K = K (some (.int (zi 1))) M := s_oneIf (b := true)
theorem s_isFurrow (hM : zget M h = some (zSo fu cr he re nx)) (hF : zget M fu = some (zAb 192 F)) : ∀ (d : Nat) (r a : Int) (K : zK), (0 ≤ r ∧ r ≤ 7 ∧ -2147483648 ≤ a ∧ a < 2147483648) → zC (d + 4) 67 [.ref h, .int (zi r), .int (zi a)] M K = K (some (.int (zi (zb (F (r * 24 + a % 24)))))) M := by
  intro d r a K c
  unfold zSo at hM
  cases hf : F (r * 24 + a % 24)
  · simp (disch := omega) only [zen_67, e_67_0, e_67_1, e_67_4t, e_67_4f, e_67_7, e_67_8, e_67_11, e_67_12, e_67_14, e_67_15, e_67_16, e_67_19, e_67_20, e_67_21t, e_67_21f, e_67_24, e_67_25, e_67_28, e_67_29, zgf_6_0, zPa_some, zPn_some, zRK_some, zRK_none, zCk_t, zis_ob, zget_set_eq, zget_set_ne, zAld_10, zAld_11, zAst_10, zAst_11, zAlen_10, zAlen_11, zbd_t, zbd_f, zb_t, zb_f, zset_set, s_isRing, s_around, hM, hF, zAld_b, hf]
  · simp (disch := omega) only [zen_67, e_67_0, e_67_1, e_67_4t, e_67_4f, e_67_7, e_67_8, e_67_11, e_67_12, e_67_14, e_67_15, e_67_16, e_67_19, e_67_20, e_67_21t, e_67_21f, e_67_24, e_67_25, e_67_28, e_67_29, zgf_6_0, zPa_some, zPn_some, zRK_some, zRK_none, zCk_t, zis_ob, zget_set_eq, zget_set_ne, zAld_10, zAld_11, zAst_10, zAst_11, zAlen_10, zAlen_11, zbd_t, zbd_f, zb_t, zb_f, zset_set, s_isRing, s_around, hM, hF, zAld_b, hf]
theorem s_isFurrowO (hM : zget M h = some (zSo fu cr he re nx)) : ∀ (d : Nat) (r a : Int) (K : zK), (-2147483648 ≤ r ∧ r < 2147483648 ∧ (r < 0 ∨ 7 < r)) → zC (d + 4) 67 [.ref h, .int (zi r), .int (zi a)] M K = K (some (.int (zi (zb false)))) M := by
  intro d r a K c
  unfold zSo at hM
  simp (disch := omega) only [zen_67, e_67_0, e_67_1, e_67_4t, e_67_4f, e_67_7, e_67_8, e_67_11, e_67_12, e_67_14, e_67_15, e_67_16, e_67_19, e_67_20, e_67_21t, e_67_21f, e_67_24, e_67_25, e_67_28, e_67_29, zgf_6_0, zPa_some, zPn_some, zRK_some, zRK_none, zCk_t, zis_ob, zget_set_eq, zget_set_ne, zAld_10, zAld_11, zAst_10, zAst_11, zAlen_10, zAlen_11, zbd_t, zbd_f, zb_t, zb_f, zset_set, s_isRing, s_around, hM]
theorem s_isLand (hM : zget M h = some (zSo fu cr he re nx)) (hF : zget M fu = some (zAb 192 F)) : ∀ (d : Nat) (r a : Int) (K : zK), (0 ≤ r ∧ r ≤ 7 ∧ -2147483648 ≤ a ∧ a < 2147483648) → zC (d + 4) 68 [.ref h, .int (zi r), .int (zi a)] M K = K (some (.int (zi (zb (!F (r * 24 + a % 24)))))) M := by
  intro d r a K c
  unfold zSo at hM
  cases hf : F (r * 24 + a % 24)
  · simp (disch := omega) only [zen_68, e_68_0, e_68_1, e_68_4t, e_68_4f, e_68_7, e_68_8, e_68_11, e_68_12, e_68_14, e_68_15, e_68_16, e_68_19, e_68_20, e_68_21t, e_68_21f, e_68_24, e_68_25, e_68_28, e_68_29, zgf_6_0, zPa_some, zPn_some, zRK_some, zRK_none, zCk_t, zis_ob, zget_set_eq, zget_set_ne, zAld_10, zAld_11, zAst_10, zAst_11, zAlen_10, zAlen_11, zbd_t, zbd_f, zb_t, zb_f, zset_set, s_isRing, s_around, hM, hF, zAld_b, hf, Bool.not_false]
  · simp (disch := omega) only [zen_68, e_68_0, e_68_1, e_68_4t, e_68_4f, e_68_7, e_68_8, e_68_11, e_68_12, e_68_14, e_68_15, e_68_16, e_68_19, e_68_20, e_68_21t, e_68_21f, e_68_24, e_68_25, e_68_28, e_68_29, zgf_6_0, zPa_some, zPn_some, zRK_some, zRK_none, zCk_t, zis_ob, zget_set_eq, zget_set_ne, zAld_10, zAld_11, zAst_10, zAst_11, zAlen_10, zAlen_11, zbd_t, zbd_f, zb_t, zb_f, zset_set, s_isRing, s_around, hM, hF, zAld_b, hf, Bool.not_true]
theorem s_heightAt (hM : zget M h = some (zSo fu cr he re nx)) (hG : zget M he = some (zA 10 192 G)) : ∀ (d : Nat) (r a : Int) (K : zK), (0 ≤ r ∧ r ≤ 7 ∧ -2147483648 ≤ a ∧ a < 2147483648) → zC (d + 4) 69 [.ref h, .int (zi r), .int (zi a)] M K = K (some (.int (zi (G (r * 24 + a % 24))))) M := by
  intro d r a K c
  unfold zSo at hM
  simp (disch := omega) only [zen_69, e_69_0, e_69_1, e_69_4t, e_69_4f, e_69_7, e_69_8, e_69_11, e_69_12, e_69_14, e_69_15, e_69_16, e_69_19, e_69_20, e_69_21, e_69_24, e_69_25, zgf_6_2, zPa_some, zPn_some, zRK_some, zRK_none, zCk_t, zis_ob, zget_set_eq, zget_set_ne, zAld_10, zAld_11, zAst_10, zAst_11, zAlen_10, zAlen_11, zbd_t, zbd_f, zb_t, zb_f, zset_set, s_isRing, s_around, hM, hG]
theorem s_isCracked (hM : zget M h = some (zSo fu cr he re nx)) (hC : zget M cr = some (zAb 192 C)) : ∀ (d : Nat) (r a : Int) (K : zK), (0 ≤ r ∧ r ≤ 7 ∧ -2147483648 ≤ a ∧ a < 2147483648) → zC (d + 4) 70 [.ref h, .int (zi r), .int (zi a)] M K = K (some (.int (zi (zb (C (r * 24 + a % 24)))))) M := by
  intro d r a K c
  unfold zSo at hM
  cases hf : C (r * 24 + a % 24)
  · simp (disch := omega) only [zen_70, e_70_0, e_70_1, e_70_4t, e_70_4f, e_70_7, e_70_8, e_70_11, e_70_12, e_70_14, e_70_15, e_70_16, e_70_19, e_70_20, e_70_21t, e_70_21f, e_70_24, e_70_25, e_70_28, e_70_29, zgf_6_1, zPa_some, zPn_some, zRK_some, zRK_none, zCk_t, zis_ob, zget_set_eq, zget_set_ne, zAld_10, zAld_11, zAst_10, zAst_11, zAlen_10, zAlen_11, zbd_t, zbd_f, zb_t, zb_f, zset_set, s_isRing, s_around, hM, hC, zAld_b, hf]
  · simp (disch := omega) only [zen_70, e_70_0, e_70_1, e_70_4t, e_70_4f, e_70_7, e_70_8, e_70_11, e_70_12, e_70_14, e_70_15, e_70_16, e_70_19, e_70_20, e_70_21t, e_70_21f, e_70_24, e_70_25, e_70_28, e_70_29, zgf_6_1, zPa_some, zPn_some, zRK_some, zRK_none, zCk_t, zis_ob, zget_set_eq, zget_set_ne, zAld_10, zAld_11, zAst_10, zAst_11, zAlen_10, zAlen_11, zbd_t, zbd_f, zb_t, zb_f, zset_set, s_isRing, s_around, hM, hC, zAld_b, hf]
theorem s_setCrack (hM : zget M h = some (zSo fu cr he re nx)) (hC : zget M cr = some (zAb 192 C)) : ∀ (d : Nat) (r a : Int) (v : Bool) (K : zK), (0 ≤ r ∧ r ≤ 7 ∧ -2147483648 ≤ a ∧ a < 2147483648) → zC (d + 4) 71 [.ref h, .int (zi r), .int (zi a), .int (zi (zb v))] M K = K none (zset M cr (zAb 192 (fun j => if j = r * 24 + a % 24 then v else C j))) := by
  intro d r a v K c
  unfold zSo at hM
  simp (disch := omega) only [zen_71, e_71_0, e_71_1, e_71_4t, e_71_4f, e_71_7, e_71_8, e_71_11, e_71_12, e_71_14, e_71_15, e_71_16, e_71_19, e_71_20, e_71_21, e_71_22, zgf_6_1, zPa_some, zPn_some, zRK_some, zRK_none, zCk_t, zis_ob, zget_set_eq, zget_set_ne, zAld_10, zAld_11, zAst_10, zAst_11, zAlen_10, zAlen_11, zbd_t, zbd_f, zb_t, zb_f, zset_set, s_isRing, s_around, hM, hC, zAst_b]
theorem s_setFurrow (hM : zget M h = some (zSo fu cr he re nx)) (hF : zget M fu = some (zAb 192 F)) : ∀ (d : Nat) (r a : Int) (K : zK), (0 ≤ r ∧ r ≤ 7 ∧ -2147483648 ≤ a ∧ a < 2147483648) → zC (d + 4) 66 [.ref h, .int (zi r), .int (zi a)] M K = K none (zset M fu (zAb 192 (fun j => if j = r * 24 + a % 24 then true else F j))) := by
  intro d r a K c
  unfold zSo at hM
  simp (disch := omega) only [zen_66, e_66_0, e_66_1, e_66_4t, e_66_4f, e_66_7, e_66_8, e_66_11, e_66_12, e_66_14, e_66_15, e_66_16, e_66_19, e_66_20, e_66_21, e_66_22, zgf_6_0, zPa_some, zPn_some, zRK_some, zRK_none, zCk_t, zis_ob, zget_set_eq, zget_set_ne, zAld_10, zAld_11, zAst_10, zAst_11, zAlen_10, zAlen_11, zbd_t, zbd_f, zb_t, zb_f, zset_set, s_isRing, s_around, hM, hF, zAst_b1]
theorem s_lower (hM : zget M h = some (zSo fu cr he re nx)) (hG : zget M he = some (zA 10 192 G)) (rG : ∀ j, 0 ≤ j → j < 192 → 0 ≤ G j ∧ G j ≤ 60) : ∀ (d : Nat) (r a x : Int) (K : zK), (0 ≤ r ∧ r ≤ 7 ∧ -2147483648 ≤ a ∧ a < 2147483648 ∧ 0 ≤ x ∧ x ≤ 60) → zC (d + 4) 72 [.ref h, .int (zi r), .int (zi a), .int (zi x)] M K = K (some (.int (zi (min x (G (r * 24 + a % 24)))))) (zset M he (zA 10 192 (zu G (r * 24 + a % 24) (G (r * 24 + a % 24) - min x (G (r * 24 + a % 24)))))) := by
  intro d r a x K c
  unfold zSo at hM
  have hg := rG (r * 24 + a % 24) (by omega) (by omega)
  simp (disch := omega) only [zen_72, e_72_0, e_72_1, e_72_4t, e_72_4f, e_72_7, e_72_8, e_72_9, e_72_10, e_72_12, e_72_13, e_72_14, e_72_17, e_72_18, e_72_20, e_72_21, e_72_22, e_72_25, e_72_27, e_72_28, e_72_31, e_72_33, e_72_34, e_72_37, e_72_39, e_72_40, e_72_41, e_72_43, e_72_44, e_72_45, e_72_47, zgf_6_2, zPa_some, zPn_some, zRK_some, zRK_none, zCk_t, zis_ob, zget_set_eq, zget_set_ne, zAld_10, zAld_11, zAst_10, zAst_11, zAlen_10, zAlen_11, zbd_t, zbd_f, zb_t, zb_f, zset_set, s_isRing, s_around, hM, hG, s_min]
-- loops over all spots
def f_sum (G : Int → Int) (i acc : Int) : Int := acc + G i
theorem l_77 (hM : zget M h = some (zSo fu cr he re nx)) (hG : zget M he = some (zA 10 192 G)) : ∀ (n : Nat) (i acc : Int), i + n = 192 → 0 ≤ i → ∀ (d : Nat) (K : zK), Ev d 77 8 [some (.ref h), some (.int (zi acc)), some (.int (zi i))] [.int (zi 192), .int (zi i)] M K = K (some (.int (zi (zfor (f_sum G) n i acc)))) M := by
  unfold zSo at hM
  intro n
  induction n with
  | zero =>
    intro i acc hi h0 d K
    simp (disch := omega) only [zen_77, e_77_0, e_77_1, e_77_2, e_77_3, e_77_4, e_77_5, e_77_8t, e_77_8f, e_77_11, e_77_12, e_77_13, e_77_16, e_77_17, e_77_18, e_77_19, e_77_20, e_77_23, e_77_26, e_77_27, zgf_6_2, zPa_some, zPn_some, zRK_some, zRK_none, zCk_t, zis_ob, zget_set_eq, zget_set_ne, zAld_10, zAld_11, zAst_10, zAst_11, zAlen_10, zAlen_11, zbd_t, zbd_f, zb_t, zb_f, zset_set, hM, hG, zfor_0]
  | succ n ih =>
    intro i acc hi h0 d K
    simp (disch := omega) only [zen_77, e_77_0, e_77_1, e_77_2, e_77_3, e_77_4, e_77_5, e_77_8t, e_77_8f, e_77_11, e_77_12, e_77_13, e_77_16, e_77_17, e_77_18, e_77_19, e_77_20, e_77_23, e_77_26, e_77_27, zgf_6_2, zPa_some, zPn_some, zRK_some, zRK_none, zCk_t, zis_ob, zget_set_eq, zget_set_ne, zAld_10, zAld_11, zAst_10, zAst_11, zAlen_10, zAlen_11, zbd_t, zbd_f, zb_t, zb_f, zset_set, hM, hG, zfor_s]
    rw [ih (i + 1) (acc + G i) (by omega) (by omega)]
    rfl
theorem s_sumOfHeights (hM : zget M h = some (zSo fu cr he re nx)) (hG : zget M he = some (zA 10 192 G)) : ∀ (d : Nat) (K : zK), zC (d + 1) 77 [.ref h] M K = K (some (.int (zi (zfor (f_sum G) 192 0 0)))) M := by
  intro d K
  simp (disch := omega) only [zen_77, e_77_0, e_77_1, e_77_2, e_77_3, e_77_4, e_77_5, e_77_11, e_77_12, e_77_13, e_77_16, e_77_17, e_77_18, e_77_19, e_77_20, e_77_23, e_77_26, e_77_27, zgf_6_2, zPa_some, zPn_some, zRK_some, zRK_none, zCk_t, zis_ob, zget_set_eq, zget_set_ne, zAld_10, zAld_11, zAst_10, zAst_11, zAlen_10, zAlen_11, zbd_t, zbd_f, zb_t, zb_f, zset_set]
  exact l_77 hM hG 192 0 0 (by omega) (by omega) d K
def f_least (F : Int → Bool) (G : Int → Int) (i acc : Int) : Int := if F i = true then acc else min acc (G i)
theorem l_83 (hM : zget M h = some (zSo fu cr he re nx)) (hF : zget M fu = some (zAb 192 F)) (hG : zget M he = some (zA 10 192 G)) (rG : ∀ j, 0 ≤ j → j < 192 → 0 ≤ G j ∧ G j ≤ 60) : ∀ (n : Nat) (i acc : Int), i + n = 192 → 0 ≤ i → 0 ≤ acc ∧ acc ≤ 1000 → ∀ (d : Nat) (K : zK), Ev (d + 1) 83 10 [some (.ref h), some (.int (zi acc)), some (.int (zi i))] [.int (zi 192), .int (zi i)] M K = K (some (.int (zi (zfor (f_least F G) n i acc)))) M := by
  unfold zSo at hM
  intro n
  induction n with
  | zero =>
    intro i acc hi h0 ha d K
    simp (disch := omega) only [zen_83, e_83_0, e_83_3, e_83_4, e_83_5, e_83_6, e_83_7, e_83_10t, e_83_10f, e_83_13, e_83_14, e_83_17, e_83_18, e_83_19t, e_83_19f, e_83_22, e_83_23, e_83_24, e_83_27, e_83_28, e_83_29, e_83_32, e_83_33, e_83_36, e_83_39, e_83_40, zgf_6_0, zgf_6_2, zPa_some, zPn_some, zRK_some, zRK_none, zCk_t, zis_ob, zget_set_eq, zget_set_ne, zAld_10, zAld_11, zAst_10, zAst_11, zAlen_10, zAlen_11, zbd_t, zbd_f, zb_t, zb_f, zset_set, hM, hF, hG, zfor_0]
  | succ n ih =>
    intro i acc hi h0 ha d K
    have hg := rG i (by omega) (by omega)
    rw [zfor_s]
    cases hf : F i with
    | true =>
      simp (disch := omega) only [zen_83, e_83_0, e_83_3, e_83_4, e_83_5, e_83_6, e_83_7, e_83_10t, e_83_10f, e_83_13, e_83_14, e_83_17, e_83_18, e_83_19t, e_83_19f, e_83_22, e_83_23, e_83_24, e_83_27, e_83_28, e_83_29, e_83_32, e_83_33, e_83_36, e_83_39, e_83_40, zgf_6_0, zgf_6_2, zPa_some, zPn_some, zRK_some, zRK_none, zCk_t, zis_ob, zget_set_eq, zget_set_ne, zAld_10, zAld_11, zAst_10, zAst_11, zAlen_10, zAlen_11, zbd_t, zbd_f, zb_t, zb_f, zset_set, hM, hF, hG, zAld_b, hf, f_least, if_true]
      rw [ih (i + 1) acc (by omega) (by omega) (by omega)]
    | false =>
      simp (disch := omega) only [zen_83, e_83_0, e_83_3, e_83_4, e_83_5, e_83_6, e_83_7, e_83_10t, e_83_10f, e_83_13, e_83_14, e_83_17, e_83_18, e_83_19t, e_83_19f, e_83_22, e_83_23, e_83_24, e_83_27, e_83_28, e_83_29, e_83_32, e_83_33, e_83_36, e_83_39, e_83_40, zgf_6_0, zgf_6_2, zPa_some, zPn_some, zRK_some, zRK_none, zCk_t, zis_ob, zget_set_eq, zget_set_ne, zAld_10, zAld_11, zAst_10, zAst_11, zAlen_10, zAlen_11, zbd_t, zbd_f, zb_t, zb_f, zset_set, hM, hF, hG, zAld_b, hf, s_min, f_least, Bool.false_eq_true, if_false]
      rw [ih (i + 1) (min acc (G i)) (by omega) (by omega) (by omega)]
theorem s_leastLand (hM : zget M h = some (zSo fu cr he re nx)) (hF : zget M fu = some (zAb 192 F)) (hG : zget M he = some (zA 10 192 G)) (rG : ∀ j, 0 ≤ j → j < 192 → 0 ≤ G j ∧ G j ≤ 60) : ∀ (d : Nat) (K : zK), zC (d + 2) 83 [.ref h] M K = K (some (.int (zi (zfor (f_least F G) 192 0 1000)))) M := by
  intro d K
  simp (disch := omega) only [zen_83, e_83_0, e_83_3, e_83_4, e_83_5, e_83_6, e_83_7, e_83_13, e_83_14, e_83_17, e_83_18, e_83_19t, e_83_19f, e_83_22, e_83_23, e_83_24, e_83_27, e_83_28, e_83_29, e_83_32, e_83_33, e_83_36, e_83_39, e_83_40, zgf_6_0, zgf_6_2, zPa_some, zPn_some, zRK_some, zRK_none, zCk_t, zis_ob, zget_set_eq, zget_set_ne, zAld_10, zAld_11, zAst_10, zAst_11, zAlen_10, zAlen_11, zbd_t, zbd_f, zb_t, zb_f, zset_set]
  exact l_83 hM hF hG rG 192 0 1000 (by omega) (by omega) (by omega) d K
end STONE
