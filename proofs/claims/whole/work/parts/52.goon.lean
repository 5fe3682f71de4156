/-! the class lays the orders out -/
def mlS : Nat → Int → List Int
  | 0, _ => []
  | k + 1, m => m :: mlS k (m + 1)
def dfS (R : Nat → Int → Int) (lt : Int) : Nat → Int → Int → Int → Option (List Int)
  | 0, S, _, _ => if S = 0 then some [] else none
  | n + 1, S, p, y => if S = 0 then some [] else (mlS 6 0).findSome? (fun m => if bt S m = true then (if enS R p y m ≤ R 12 m ∧ enS R p y m ≤ lt then (dfS R lt n (rs S m) m (enS R p y m)).map (fun L => m :: L) else none) else none)
def ndS (R : Nat → Int → Int) (lt : Int) (n : Nat) (S p y m : Int) : Option (List Int) := if bt S m = true then (if enS R p y m ≤ R 12 m ∧ enS R p y m ≤ lt then (dfS R lt n (rs S m) m (enS R p y m)).map (fun L => m :: L) else none) else none
def sgS (R : Nat → Int → Int) : Int → Int → List Int → (Int → Int) → Int → Int
  | _, _, [], st => st
  | p, y, m :: L, st => sgS R m (enS R p y m) L (zu st m (skS R p y m))
theorem dfS_PO {R : Nat → Int → Int} {lt : Int} : ∀ (n : Nat) (S p y : Int) (L : List Int), dfS R lt n S p y = some L → PO L S := by
  intro n
  induction n with
  | zero =>
    intro S p y L h
    unfold dfS at h
    by_cases c : S = 0
    · rw [if_pos c] at h
      cases h
      exact c
    · rw [if_neg c] at h
      cases h
  | succ n ih =>
    intro S p y L h
    unfold dfS at h
    by_cases c : S = 0
    · rw [if_pos c] at h
      cases h
      exact c
    · rw [if_neg c] at h
      obtain ⟨m, hm, h2⟩ := List.exists_of_findSome?_eq_some h
      have hm2 : 0 ≤ m ∧ m < 6 := by
        have : ∀ k i m, m ∈ mlS k i → i ≤ m ∧ m < i + k := by
          intro k
          induction k with
          | zero => intro i m h; cases h
          | succ k ih =>
            intro i m h
            rcases List.mem_cons.mp h with q | q
            · omega
            · have := ih (i + 1) m q; omega
        have := this 6 0 m hm
        omega
      by_cases b1 : bt S m = true
      · rw [if_pos b1] at h2
        by_cases b2 : enS R p y m ≤ R 12 m ∧ enS R p y m ≤ lt
        · rw [if_pos b2] at h2
          obtain ⟨L', q1, q2⟩ := Option.map_eq_some_iff.mp h2
          subst q2
          exact ⟨hm2, b1, ih _ _ _ _ q1⟩
        · rw [if_neg b2] at h2; cases h2
      · rw [if_neg b1] at h2; cases h2
theorem mlS_mem : ∀ (k : Nat) (i m : Int), m ∈ mlS k i → i ≤ m ∧ m < i + k := by
  intro k
  induction k with
  | zero => intro i m h; cases h
  | succ k ih =>
    intro i m h
    rcases List.mem_cons.mp h with q | q
    · omega
    · have := ih (i + 1) m q; omega
theorem fsS_PO {R : Nat → Int → Int} {lt : Int} {n k : Nat} {S p y m : Int} {L : List Int} (hS : 0 ≤ S ∧ S < 64) (hm : 0 ≤ m ∧ m + k ≤ 6) (h : (mlS k m).findSome? (ndS R lt n S p y) = some L) : PO L S := by
  obtain ⟨j, hj, h2⟩ := List.exists_of_findSome?_eq_some h
  have hj2 := mlS_mem k m j hj
  unfold ndS at h2
  by_cases b1 : bt S j = true
  · rw [if_pos b1] at h2
    by_cases b2 : enS R p y j ≤ R 12 j ∧ enS R p y j ≤ lt
    · rw [if_pos b2] at h2
      obtain ⟨L', q1, q2⟩ := Option.map_eq_some_iff.mp h2
      subst q2
      exact ⟨by omega, b1, dfS_PO n _ _ _ _ q1⟩
    · rw [if_neg b2] at h2; cases h2
  · rw [if_neg b1] at h2; cases h2
theorem sgS_over {R : Nat → Int → Int} : ∀ (L : List Int) (S p y : Int) (f g : Int → Int), (0 ≤ S ∧ S < 64) → PO L S → (∀ j, 0 ≤ j → j < 6 → bt S j = false → f j = g j) → ∀ j, 0 ≤ j → j < 6 → sgS R p y L f j = sgS R p y L g j := by
  intro L
  induction L with
  | nil =>
    intro S p y f g hS hp h j h1 h2
    have e : S = 0 := hp
    exact h j h1 h2 (by rw [e, bt_0])
  | cons m L ih =>
    intro S p y f g hS hp h j h1 h2
    obtain ⟨hm, b1, hp2⟩ := hp
    have rr := rs_rng (S := S) (m := m) (by omega)
    refine ih (rs S m) m (enS R p y m) _ _ (by omega) hp2 (fun i i1 i2 i3 => ?_) j h1 h2
    unfold zu
    by_cases c : i = m
    · rw [if_pos c, if_pos c]
    · rw [if_neg c, if_neg c]
      rw [bt_rs (by omega), decide_eq_false c, Bool.not_false, Bool.and_true] at i3
      exact h i i1 i2 i3
section GOX
variable {b : Nat} {v : Nat → Int} {R : Nat → Int → Int} {D : Int → Bool} {W H : Int} {e so ow : Int → Int} {lt : Int}
def relS (R : Nat → Int → Int) (S p y : Int) (res : Option (List Int)) (st st' : Int → Int) : Prop := (∀ j, 0 ≤ j → j < 6 → bt S j = false → st' j = st j) ∧ ∀ L, res = some L → ∀ j, 0 ≤ j → j < 6 → st' j = sgS R p y L st j
def okP (p y : Int) : Prop := (p = -1 ∧ y = -1) ∨ (0 ≤ p ∧ p < 6 ∧ -1 ≤ y ∧ y ≤ 30)
def GOn (b : Nat) (v : Nat → Int) (R : Nat → Int → Int) (D : Int → Bool) (e so ow : Int → Int) (lt : Int) (n : Nat) : Prop := ∀ (S p y dp : Int) (st : Int → Int) (M : zM), PL b v R D e so ow st lt M → dp + n = 6 → 0 ≤ dp → (0 ≤ S ∧ S < 64) → (∀ m, 0 ≤ m → m < 6 → bt S m = true → D m = true) → okP p y → ∃ M' st', (∀ (d : Nat) (K : zK), zC (d + n + 5) 62 [.ref (b + 17), .ref (b + 12), .int (zi S), .int (zi p), .int (zi y), .int (zi dp)] M K = K (some (.int (zi (zb (dfS R lt n S p y).isSome)))) M') ∧ PL b v R D e so ow st' lt M' ∧ zFr (b + 17) 5 M M' ∧ relS R S p y (dfS R lt n S p y) st st'
theorem l_62 (rm : RM R D) (hlt : -1 ≤ lt ∧ lt ≤ 30) (n : Nat) (ih0 : GOn b v R D e so ow lt n) (S p y dp : Int) (hdp : dp + (n + 1 : Nat) = 6) (hd0 : 0 ≤ dp) (hS : 0 ≤ S ∧ S < 64) (hD : ∀ m, 0 ≤ m → m < 6 → bt S m = true → D m = true) (hp : okP p y) : ∀ (k : Nat) (m : Int) (st : Int → Int) (M : zM) (u7 u8 : Option Value), PL b v R D e so ow st lt M → m + k = 6 → 0 ≤ m → ∃ M' st', (∀ (d : Nat) (K : zK), Ev (d + n + 5) 62 28 [some (.ref (b + 17)), some (.ref (b + 12)), some (.int (zi S)), some (.int (zi p)), some (.int (zi y)), some (.int (zi dp)), some (.int (zi m)), u7, u8] [.int (zi 6), .int (zi m)] M K = K (some (.int (zi (zb ((mlS k m).findSome? (ndS R lt n S p y)).isSome)))) M') ∧ PL b v R D e so ow st' lt M' ∧ zFr (b + 17) 5 M M' ∧ relS R S p y ((mlS k m).findSome? (ndS R lt n S p y)) st st' := by
  intro k
  induction k with
  | zero =>
    intro m st M u7 u8 x hm h0
    obtain rfl : m = 6 := by omega
    refine ⟨M, st, fun d K => ?_, x, zFr_refl, fun _ _ _ _ => rfl, fun L q => by cases q⟩
    simp (disch := omega) only [zen_62, e_62_0, e_62_1t, e_62_1f, e_62_4, e_62_6, e_62_8t, e_62_8f, e_62_11, e_62_12t, e_62_12f, e_62_15, e_62_16, e_62_19, e_62_20, e_62_21, e_62_22, e_62_24, e_62_26, e_62_28t, e_62_28f, e_62_31, e_62_32, e_62_34, e_62_37t, e_62_37f, e_62_40, e_62_43, e_62_44, e_62_45t, e_62_45f, e_62_48, e_62_49, e_62_51, e_62_54, e_62_57, e_62_58, e_62_59, e_62_61, e_62_63, e_62_66, e_62_68, e_62_69, e_62_71, e_62_73, e_62_76, e_62_78, e_62_79, e_62_81, e_62_83, e_62_86t, e_62_86f, e_62_89, e_62_91, e_62_92, e_62_95t, e_62_95f, e_62_98, e_62_101, e_62_102, e_62_105, e_62_107, e_62_109, e_62_112, e_62_113, e_62_114, e_62_115, e_62_116, e_62_118, e_62_119, e_62_120, e_62_121, e_62_122, e_62_124, e_62_126, e_62_128, e_62_129, e_62_130, e_62_133t, e_62_133f, e_62_136, e_62_137, e_62_138, e_62_141, e_62_144, e_62_145, zgf_5_3, zgf_5_4, zPa_some, zPn_some, zRK_some, zRK_none, zCk_t, zis_ob, zget_set_eq, zget_set_ne, zAld_10, zAld_11, zAst_10, zAst_11, zAlen_10, zAlen_11, zbd_t, zbd_f, zb_t, zb_f, zset_set, s_one0, s_one1, zis_so]
    rfl
  | succ k ih =>
    intro m st M u7 u8 x hm h0
    have ef : (mlS (k + 1) m).findSome? (ndS R lt n S p y) = match ndS R lt n S p y m with | some L => some L | none => (mlS k (m + 1)).findSome? (ndS R lt n S p y) := by
      show List.findSome? (ndS R lt n S p y) (m :: mlS k (m + 1)) = _
      rw [List.findSome?_cons]
      cases ndS R lt n S p y m <;> rfl
    cases f : bt S m with
    | false =>
      have nd : ndS R lt n S p y m = none := by unfold ndS; rw [f, if_neg (by decide)]
      rw [nd] at ef
      rw [ef]
      obtain ⟨M', st', a1, a2, a3, a4⟩ := ih (m + 1) st M u7 u8 x (by omega) (by omega)
      refine ⟨M', st', fun d K => ?_, a2, a3, a4⟩
      rw [← a1 d K]
      simp (disch := omega) only [zen_62, e_62_0, e_62_1t, e_62_1f, e_62_4, e_62_6, e_62_8t, e_62_8f, e_62_11, e_62_12t, e_62_12f, e_62_15, e_62_16, e_62_19, e_62_20, e_62_21, e_62_22, e_62_24, e_62_26, e_62_28t, e_62_28f, e_62_31, e_62_32, e_62_34, e_62_37t, e_62_37f, e_62_40, e_62_43, e_62_44, e_62_45t, e_62_45f, e_62_48, e_62_49, e_62_51, e_62_54, e_62_57, e_62_58, e_62_59, e_62_61, e_62_63, e_62_66, e_62_68, e_62_69, e_62_71, e_62_73, e_62_76, e_62_78, e_62_79, e_62_81, e_62_83, e_62_86t, e_62_86f, e_62_89, e_62_91, e_62_92, e_62_95t, e_62_95f, e_62_98, e_62_101, e_62_102, e_62_105, e_62_107, e_62_109, e_62_112, e_62_113, e_62_114, e_62_115, e_62_116, e_62_118, e_62_119, e_62_120, e_62_121, e_62_122, e_62_124, e_62_126, e_62_128, e_62_129, e_62_130, e_62_133t, e_62_133f, e_62_136, e_62_137, e_62_138, e_62_141, e_62_144, e_62_145, zgf_5_3, zgf_5_4, zPa_some, zPn_some, zRK_some, zRK_none, zCk_t, zis_ob, zget_set_eq, zget_set_ne, zAld_10, zAld_11, zAst_10, zAst_11, zAlen_10, zAlen_11, zbd_t, zbd_f, zb_t, zb_f, zset_set, s_one0, s_one1, zis_so, s_has, f]
    | true =>
      have hDm := hD m h0 (by omega) f
      have rmm := rm.1 m h0 (by omega)
      obtain ⟨x0, x1, x2, x3, x4, x5⟩ := id x
      have y1 := x0.1
      have e1 := s_earliestStart x0
      have e2 := s_startBehind x0 rm
      have e3 := s_lastDay x0
      have e4 := s_isInTime x0 rm
      have rk : 0 ≤ skS R p y m ∧ skS R p y m ≤ 100 := by
        unfold skS
        unfold okP at hp
        split
        · omega
        · have r14 := rm.2 (p * 6 + m) (by omega) (by omega)
          omega
      have e1' : ∀ (d : Nat) (K : zK), zC (d + 2) 44 [.ref (b + 12), .int (zi m)] M K = K (some (.int (zi (R 11 m)))) M := fun d K => e1 d m K ⟨by omega, hDm⟩
      have e3' : ∀ (d : Nat) (K : zK), zC (d + 2) 46 [.ref (b + 12), .int (zi m), .int (zi (skS R p y m))] M K = K (some (.int (zi (enS R p y m)))) M := fun d K => e3 d m _ K ⟨by omega, hDm⟩
      have e4' : ∀ (d : Nat) (K : zK), zC (d + 3) 47 [.ref (b + 12), .int (zi m), .int (zi (skS R p y m))] M K = K (some (.int (zi (zb (decide (enS R p y m ≤ R 12 m)))))) M := fun d K => e4 d m _ K ⟨by omega, hDm⟩
      have ren : -1 ≤ enS R p y m ∧ enS R p y m ≤ 200 := by unfold enS; omega
      have pst : ∀ (d : Nat) (K : zK), Ev (d + 4) 62 43 [some (.ref (b + 17)), some (.ref (b + 12)), some (.int (zi S)), some (.int (zi p)), some (.int (zi y)), some (.int (zi dp)), some (.int (zi m)), u7, u8] [] M K = Ev (d + 4) 62 66 [some (.ref (b + 17)), some (.ref (b + 12)), some (.int (zi S)), some (.int (zi p)), some (.int (zi y)), some (.int (zi dp)), some (.int (zi m)), u7, u8] [.int (zi (skS R p y m))] M K := by
        intro d K
        unfold okP at hp
        by_cases c : p = -1
        · have ek : skS R p y m = R 11 m := by unfold skS; rw [if_pos c]
          rw [ek]
          simp (disch := omega) only [zen_62, e_62_0, e_62_1t, e_62_1f, e_62_4, e_62_6, e_62_8t, e_62_8f, e_62_11, e_62_12t, e_62_12f, e_62_15, e_62_16, e_62_19, e_62_20, e_62_21, e_62_22, e_62_24, e_62_26, e_62_28t, e_62_28f, e_62_31, e_62_32, e_62_34, e_62_37t, e_62_37f, e_62_40, e_62_43, e_62_44, e_62_45t, e_62_45f, e_62_48, e_62_49, e_62_51, e_62_54, e_62_57, e_62_58, e_62_59, e_62_61, e_62_63, e_62_68, e_62_69, e_62_71, e_62_73, e_62_76, e_62_78, e_62_79, e_62_81, e_62_83, e_62_86t, e_62_86f, e_62_89, e_62_91, e_62_92, e_62_95t, e_62_95f, e_62_98, e_62_101, e_62_102, e_62_105, e_62_107, e_62_109, e_62_112, e_62_113, e_62_114, e_62_115, e_62_116, e_62_118, e_62_119, e_62_120, e_62_121, e_62_122, e_62_124, e_62_126, e_62_128, e_62_129, e_62_130, e_62_133t, e_62_133f, e_62_136, e_62_137, e_62_138, e_62_141, e_62_144, e_62_145, zgf_5_3, zgf_5_4, zPa_some, zPn_some, zRK_some, zRK_none, zCk_t, zis_ob, zget_set_eq, zget_set_ne, zAld_10, zAld_11, zAst_10, zAst_11, zAlen_10, zAlen_11, zbd_t, zbd_f, zb_t, zb_f, zset_set, s_one0, s_one1, zis_so, y1, e1']
        · have ek : skS R p y m = max (R 11 m) (y + R 14 (p * 6 + m) + 1) := by unfold skS; rw [if_neg c]
          rw [ek]
          have e2' : ∀ (d : Nat) (K : zK), zC (d + 3) 45 [.ref (b + 12), .int (zi p), .int (zi y), .int (zi m)] M K = K (some (.int (zi (max (R 11 m) (y + R 14 (p * 6 + m) + 1))))) M := fun d K => e2 d p y m K ⟨by omega, hDm⟩
          simp (disch := omega) only [zen_62, e_62_0, e_62_1t, e_62_1f, e_62_4, e_62_6, e_62_8t, e_62_8f, e_62_11, e_62_12t, e_62_12f, e_62_15, e_62_16, e_62_19, e_62_20, e_62_21, e_62_22, e_62_24, e_62_26, e_62_28t, e_62_28f, e_62_31, e_62_32, e_62_34, e_62_37t, e_62_37f, e_62_40, e_62_43, e_62_44, e_62_45t, e_62_45f, e_62_48, e_62_49, e_62_51, e_62_54, e_62_57, e_62_58, e_62_59, e_62_61, e_62_63, e_62_68, e_62_69, e_62_71, e_62_73, e_62_76, e_62_78, e_62_79, e_62_81, e_62_83, e_62_86t, e_62_86f, e_62_89, e_62_91, e_62_92, e_62_95t, e_62_95f, e_62_98, e_62_101, e_62_102, e_62_105, e_62_107, e_62_109, e_62_112, e_62_113, e_62_114, e_62_115, e_62_116, e_62_118, e_62_119, e_62_120, e_62_121, e_62_122, e_62_124, e_62_126, e_62_128, e_62_129, e_62_130, e_62_133t, e_62_133f, e_62_136, e_62_137, e_62_138, e_62_141, e_62_144, e_62_145, zgf_5_3, zgf_5_4, zPa_some, zPn_some, zRK_some, zRK_none, zCk_t, zis_ob, zget_set_eq, zget_set_ne, zAld_10, zAld_11, zAst_10, zAst_11, zAlen_10, zAlen_11, zbd_t, zbd_f, zb_t, zb_f, zset_set, s_one0, s_one1, zis_so, y1, e2']
      by_cases c : enS R p y m ≤ R 12 m ∧ enS R p y m ≤ lt
      · have nd : ndS R lt n S p y m = (dfS R lt n (rs S m) m (enS R p y m)).map (fun L => m :: L) := by unfold ndS; rw [f, if_pos rfl, if_pos c]
        have rr := rs_rng (S := S) (m := m) (by omega)
        have z := PL_st (st' := zu st m (skS R p y m)) x
        obtain ⟨M1, st1, a1, a2, a3, a4⟩ := ih0 (rs S m) m (enS R p y m) (dp + 1) _ _ z (by omega) (by omega) (by omega) (fun j j1 j2 j3 => by
          rw [bt_rs (by omega), Bool.and_eq_true_iff] at j3
          exact hD j j1 j2 j3.1) (Or.inr ⟨by omega, by omega, by omega, by omega⟩)
        have z1 := zshl_pw (m := m) (by omega)
        have z2 := zand_rest (S := S) (m := m) (by omega)
        have ep := s_putItem x5 (by omega)
        have f1 : zFr (b + 17) 5 M M1 := zFr_trans (zFr_set (by omega)) a3
        rw [decide_eq_true c.1] at e4'
        cases g : dfS R lt n (rs S m) m (enS R p y m) with
        | some L' =>
          rw [g] at nd a1 a4
          rw [nd] at ef
          have ef2 : (mlS (k + 1) m).findSome? (ndS R lt n S p y) = some (m :: L') := ef
          rw [ef2]
          refine ⟨M1, st1, fun d K => ?_, a2, f1, fun j j1 j2 j3 => ?_, fun L q j j1 j2 => ?_⟩
          · have a1' := a1 d
            rw [show zb (some L').isSome = 1 from rfl] at a1'
            have pst' := pst (d + n + 1)
            simp (disch := omega) only [zen_62, e_62_0, e_62_1t, e_62_1f, e_62_4, e_62_6, e_62_8t, e_62_8f, e_62_11, e_62_12t, e_62_12f, e_62_15, e_62_16, e_62_19, e_62_20, e_62_21, e_62_22, e_62_24, e_62_26, e_62_28t, e_62_28f, e_62_31, e_62_32, e_62_34, e_62_37t, e_62_37f, e_62_40, e_62_44, e_62_45t, e_62_45f, e_62_48, e_62_49, e_62_51, e_62_54, e_62_57, e_62_58, e_62_59, e_62_61, e_62_63, e_62_66, e_62_68, e_62_69, e_62_71, e_62_73, e_62_76, e_62_78, e_62_79, e_62_81, e_62_83, e_62_86t, e_62_86f, e_62_89, e_62_91, e_62_92, e_62_95t, e_62_95f, e_62_98, e_62_101, e_62_102, e_62_105, e_62_107, e_62_109, e_62_112, e_62_113, e_62_114, e_62_115, e_62_116, e_62_118, e_62_119, e_62_120, e_62_121, e_62_122, e_62_124, e_62_126, e_62_128, e_62_129, e_62_130, e_62_133t, e_62_133f, e_62_136, e_62_137, e_62_138, e_62_141, e_62_144, e_62_145, zgf_5_3, zgf_5_4, zPa_some, zPn_some, zRK_some, zRK_none, zCk_t, zis_ob, zget_set_eq, zget_set_ne, zAld_10, zAld_11, zAst_10, zAst_11, zAlen_10, zAlen_11, zbd_t, zbd_f, zb_t, zb_f, zset_set, s_one0, s_one1, zis_so, s_has, f, pst', x1, y1, e3', e4', ep, z1, z2, a1']
            rfl
          · rw [a4.1 j j1 j2 (by rw [bt_rs (by omega), j3, Bool.false_and])]
            unfold zu
            rw [if_neg (fun z => by rw [z, f] at j3; cases j3)]
          · cases q
            exact a4.2 L' rfl j j1 j2
        | none =>
          rw [g] at nd a1 a4
          rw [nd] at ef
          have ef2 : (mlS (k + 1) m).findSome? (ndS R lt n S p y) = (mlS k (m + 1)).findSome? (ndS R lt n S p y) := ef
          rw [ef2]
          obtain ⟨M', st', b1, b2, b3, b4⟩ := ih (m + 1) st1 M1 (some (.int (zi (skS R p y m)))) (some (.int (zi (enS R p y m)))) a2 (by omega) (by omega)
          refine ⟨M', st', fun d K => ?_, b2, zFr_trans f1 b3, fun j j1 j2 j3 => ?_, fun L q j j1 j2 => ?_⟩
          · have a1' := a1 d
            rw [show zb (none : Option (List Int)).isSome = 0 from rfl] at a1'
            have pst' := pst (d + n + 1)
            rw [← b1 d K]
            simp (disch := omega) only [zen_62, e_62_0, e_62_1t, e_62_1f, e_62_4, e_62_6, e_62_8t, e_62_8f, e_62_11, e_62_12t, e_62_12f, e_62_15, e_62_16, e_62_19, e_62_20, e_62_21, e_62_22, e_62_24, e_62_26, e_62_28t, e_62_28f, e_62_31, e_62_32, e_62_34, e_62_37t, e_62_37f, e_62_40, e_62_44, e_62_45t, e_62_45f, e_62_48, e_62_49, e_62_51, e_62_54, e_62_57, e_62_58, e_62_59, e_62_61, e_62_63, e_62_66, e_62_68, e_62_69, e_62_71, e_62_73, e_62_76, e_62_78, e_62_79, e_62_81, e_62_83, e_62_86t, e_62_86f, e_62_89, e_62_91, e_62_92, e_62_95t, e_62_95f, e_62_98, e_62_101, e_62_102, e_62_105, e_62_107, e_62_109, e_62_112, e_62_113, e_62_114, e_62_115, e_62_116, e_62_118, e_62_119, e_62_120, e_62_121, e_62_122, e_62_124, e_62_126, e_62_128, e_62_129, e_62_130, e_62_133t, e_62_133f, e_62_136, e_62_137, e_62_138, e_62_141, e_62_144, e_62_145, zgf_5_3, zgf_5_4, zPa_some, zPn_some, zRK_some, zRK_none, zCk_t, zis_ob, zget_set_eq, zget_set_ne, zAld_10, zAld_11, zAst_10, zAst_11, zAlen_10, zAlen_11, zbd_t, zbd_f, zb_t, zb_f, zset_set, s_one0, s_one1, zis_so, s_has, f, pst', x1, y1, e3', e4', ep, z1, z2, a1']
          · rw [b4.1 j j1 j2 j3, a4.1 j j1 j2 (by rw [bt_rs (by omega), j3, Bool.false_and])]
            unfold zu
            rw [if_neg (fun z => by rw [z, f] at j3; cases j3)]
          · rw [b4.2 L q j j1 j2]
            have hP : PO L S := fsS_PO (m := m + 1) (k := k) hS (by omega) q
            exact sgS_over L S p y st1 st hS hP (fun i i1 i2 i3 => by
              rw [a4.1 i i1 i2 (by rw [bt_rs (by omega), i3, Bool.false_and])]
              unfold zu
              rw [if_neg (fun z => by rw [z, f] at i3; cases i3)]) j j1 j2
      · have nd : ndS R lt n S p y m = none := by unfold ndS; rw [f, if_pos rfl, if_neg c]
        rw [nd] at ef
        have ef2 : (mlS (k + 1) m).findSome? (ndS R lt n S p y) = (mlS k (m + 1)).findSome? (ndS R lt n S p y) := ef
        rw [ef2]
        obtain ⟨M', st', a1, a2, a3, a4⟩ := ih (m + 1) st M (some (.int (zi (skS R p y m)))) (some (.int (zi (enS R p y m)))) x (by omega) (by omega)
        refine ⟨M', st', fun d K => ?_, a2, a3, a4⟩
        have pst' := pst (d + n + 1)
        rw [← a1 d K]
        by_cases c1 : enS R p y m ≤ R 12 m
        · have c2 : ¬ enS R p y m ≤ lt := fun z => c ⟨c1, z⟩
          rw [decide_eq_true c1] at e4'
          simp (disch := omega) only [zen_62, e_62_0, e_62_1t, e_62_1f, e_62_4, e_62_6, e_62_8t, e_62_8f, e_62_11, e_62_12t, e_62_12f, e_62_15, e_62_16, e_62_19, e_62_20, e_62_21, e_62_22, e_62_24, e_62_26, e_62_28t, e_62_28f, e_62_31, e_62_32, e_62_34, e_62_37t, e_62_37f, e_62_40, e_62_44, e_62_45t, e_62_45f, e_62_48, e_62_49, e_62_51, e_62_54, e_62_57, e_62_58, e_62_59, e_62_61, e_62_63, e_62_66, e_62_68, e_62_69, e_62_71, e_62_73, e_62_76, e_62_78, e_62_79, e_62_81, e_62_83, e_62_86t, e_62_86f, e_62_89, e_62_91, e_62_92, e_62_95t, e_62_95f, e_62_98, e_62_101, e_62_102, e_62_105, e_62_107, e_62_109, e_62_112, e_62_113, e_62_114, e_62_115, e_62_116, e_62_118, e_62_119, e_62_120, e_62_121, e_62_122, e_62_124, e_62_126, e_62_128, e_62_129, e_62_130, e_62_133t, e_62_133f, e_62_136, e_62_137, e_62_138, e_62_141, e_62_144, e_62_145, zgf_5_3, zgf_5_4, zPa_some, zPn_some, zRK_some, zRK_none, zCk_t, zis_ob, zget_set_eq, zget_set_ne, zAld_10, zAld_11, zAst_10, zAst_11, zAlen_10, zAlen_11, zbd_t, zbd_f, zb_t, zb_f, zset_set, s_one0, s_one1, zis_so, s_has, f, pst', x1, y1, e3', e4']
        · rw [decide_eq_false c1] at e4'
          simp (disch := omega) only [zen_62, e_62_0, e_62_1t, e_62_1f, e_62_4, e_62_6, e_62_8t, e_62_8f, e_62_11, e_62_12t, e_62_12f, e_62_15, e_62_16, e_62_19, e_62_20, e_62_21, e_62_22, e_62_24, e_62_26, e_62_28t, e_62_28f, e_62_31, e_62_32, e_62_34, e_62_37t, e_62_37f, e_62_40, e_62_44, e_62_45t, e_62_45f, e_62_48, e_62_49, e_62_51, e_62_54, e_62_57, e_62_58, e_62_59, e_62_61, e_62_63, e_62_66, e_62_68, e_62_69, e_62_71, e_62_73, e_62_76, e_62_78, e_62_79, e_62_81, e_62_83, e_62_86t, e_62_86f, e_62_89, e_62_91, e_62_92, e_62_95t, e_62_95f, e_62_98, e_62_101, e_62_102, e_62_105, e_62_107, e_62_109, e_62_112, e_62_113, e_62_114, e_62_115, e_62_116, e_62_118, e_62_119, e_62_120, e_62_121, e_62_122, e_62_124, e_62_126, e_62_128, e_62_129, e_62_130, e_62_133t, e_62_133f, e_62_136, e_62_137, e_62_138, e_62_141, e_62_144, e_62_145, zgf_5_3, zgf_5_4, zPa_some, zPn_some, zRK_some, zRK_none, zCk_t, zis_ob, zget_set_eq, zget_set_ne, zAld_10, zAld_11, zAst_10, zAst_11, zAlen_10, zAlen_11, zbd_t, zbd_f, zb_t, zb_f, zset_set, s_one0, s_one1, zis_so, s_has, f, pst', x1, y1, e3', e4']
end GOX
