/-! the class's table over sets -/
section ENDS
variable {b : Nat} {v : Nat → Int} {R : Nat → Int → Int} {D : Int → Bool} {M : zM} {W : Int}
def PL (b : Nat) (v : Nat → Int) (R : Nat → Int → Int) (D : Int → Bool) (e so ow st : Int → Int) (lt : Int) (M : zM) : Prop := XM b v R D M ∧ zget M (b + 17) = some (zOb 5 [.ref (b + 18), .ref (b + 19), .ref (b + 20), .ref (b + 21), .int (zi lt)]) ∧ zget M (b + 18) = some (zA 10 384 e) ∧ zget M (b + 19) = some (zA 10 64 so) ∧ zget M (b + 20) = some (zA 10 6 ow) ∧ zget M (b + 21) = some (zA 10 6 st)
theorem PL_e {e so ow st e' : Int → Int} {lt : Int} (x : PL b v R D e so ow st lt M) : PL b v R D e' so ow st lt (zset M (b + 18) (zA 10 384 e')) := ⟨XM_fr x.1 (zFr_set (lo := b + 18) (n := 1) (by omega)) (by omega), (zget_set_ne (by omega)).trans x.2.1, zget_set_eq, (zget_set_ne (by omega)).trans x.2.2.2.1, (zget_set_ne (by omega)).trans x.2.2.2.2.1, (zget_set_ne (by omega)).trans x.2.2.2.2.2⟩
theorem PL_so {e so ow st so' : Int → Int} {lt : Int} (x : PL b v R D e so ow st lt M) : PL b v R D e so' ow st lt (zset M (b + 19) (zA 10 64 so')) := ⟨XM_fr x.1 (zFr_set (lo := b + 19) (n := 1) (by omega)) (by omega), (zget_set_ne (by omega)).trans x.2.1, (zget_set_ne (by omega)).trans x.2.2.1, zget_set_eq, (zget_set_ne (by omega)).trans x.2.2.2.2.1, (zget_set_ne (by omega)).trans x.2.2.2.2.2⟩
theorem PL_ow {e so ow st ow' : Int → Int} {lt : Int} (x : PL b v R D e so ow st lt M) : PL b v R D e so ow' st lt (zset M (b + 20) (zA 10 6 ow')) := ⟨XM_fr x.1 (zFr_set (lo := b + 20) (n := 1) (by omega)) (by omega), (zget_set_ne (by omega)).trans x.2.1, (zget_set_ne (by omega)).trans x.2.2.1, (zget_set_ne (by omega)).trans x.2.2.2.1, zget_set_eq, (zget_set_ne (by omega)).trans x.2.2.2.2.2⟩
theorem PL_st {e so ow st st' : Int → Int} {lt : Int} (x : PL b v R D e so ow st lt M) : PL b v R D e so ow st' lt (zset M (b + 21) (zA 10 6 st')) := ⟨XM_fr x.1 (zFr_set (lo := b + 21) (n := 1) (by omega)) (by omega), (zget_set_ne (by omega)).trans x.2.1, (zget_set_ne (by omega)).trans x.2.2.1, (zget_set_ne (by omega)).trans x.2.2.2.1, (zget_set_ne (by omega)).trans x.2.2.2.2.1, zget_set_eq⟩
theorem PL_lt {e so ow st : Int → Int} {lt lt' : Int} (x : PL b v R D e so ow st lt M) : PL b v R D e so ow st lt' (zset M (b + 17) (zOb 5 [.ref (b + 18), .ref (b + 19), .ref (b + 20), .ref (b + 21), .int (zi lt')])) := ⟨XM_fr x.1 (zFr_set (lo := b + 17) (n := 1) (by omega)) (by omega), zget_set_eq, (zget_set_ne (by omega)).trans x.2.2.1, (zget_set_ne (by omega)).trans x.2.2.2.1, (zget_set_ne (by omega)).trans x.2.2.2.2.1, (zget_set_ne (by omega)).trans x.2.2.2.2.2⟩
theorem PL_ext {e so ow st e' so' ow' st' : Int → Int} {lt : Int} (x : PL b v R D e so ow st lt M) (h1 : ∀ j, 0 ≤ j → j < 384 → e j = e' j) (h2 : ∀ j, 0 ≤ j → j < 64 → so j = so' j) (h3 : ∀ j, 0 ≤ j → j < 6 → ow j = ow' j) (h4 : ∀ j, 0 ≤ j → j < 6 → st j = st' j) : PL b v R D e' so' ow' st' lt M := ⟨x.1, x.2.1, x.2.2.1.trans (congrArg some (zA_ext h1)), x.2.2.2.1.trans (congrArg some (zA_ext h2)), x.2.2.2.2.1.trans (congrArg some (zA_ext h3)), x.2.2.2.2.2.trans (congrArg some (zA_ext h4))⟩
theorem s_earliestStart (x : XM b v R D M) : ∀ (d : Nat) (m : Int) (K : zK), ((0 ≤ m ∧ m < 6) ∧ D m = true) → zC (d + 2) 44 [.ref (b + 12), .int (zi m)] M K = K (some (.int (zi (R 11 m)))) M := by
  intro d m K h
  obtain ⟨⟨h1, h2⟩, h3⟩ := h
  obtain ⟨y1, y2, y3, y4, y5⟩ := x
  have ed : zdu D (R 11) m = R 11 m := by unfold zdu; rw [if_pos h3]
  simp (disch := omega) only [zen_44, e_44_0, e_44_1, e_44_4, e_44_5, e_44_8, zgf_4_0, zPa_some, zPn_some, zRK_some, zRK_none, zCk_t, zis_ob, zget_set_eq, zget_set_ne, zAld_10, zAld_11, zAst_10, zAst_11, zAlen_10, zAlen_11, zbd_t, zbd_f, zb_t, zb_f, zset_set, s_one0, s_one1, zis_so, y1, s_itemOf y2 (by omega), ed]
theorem s_startBehind (x : XM b v R D M) (rm : RM R D) : ∀ (d : Nat) (p y m : Int) (K : zK), ((0 ≤ m ∧ m < 6 ∧ 0 ≤ p ∧ p < 6 ∧ -1 ≤ y ∧ y ≤ 1000) ∧ D m = true) → zC (d + 3) 45 [.ref (b + 12), .int (zi p), .int (zi y), .int (zi m)] M K = K (some (.int (zi (max (R 11 m) (y + R 14 (p * 6 + m) + 1))))) M := by
  intro d p y m K h
  obtain ⟨⟨h1, h2, h3, h4, h5, h6⟩, h7⟩ := h
  have e := s_roadBetween x
  obtain ⟨y1, y2, y3, y4, y5⟩ := x
  have r1 := rm.1 m h1 h2
  have r2 := rm.2 (p * 6 + m) (by omega) (by omega)
  have ed : zdu D (R 11) m = R 11 m := by unfold zdu; rw [if_pos h7]
  simp (disch := omega) only [zen_45, e_45_0, e_45_1, e_45_4, e_45_5, e_45_8, e_45_9, e_45_10, e_45_11, e_45_12, e_45_15, e_45_16, e_45_17, e_45_18, e_45_21, zgf_4_0, zPa_some, zPn_some, zRK_some, zRK_none, zCk_t, zis_ob, zget_set_eq, zget_set_ne, zAld_10, zAld_11, zAst_10, zAst_11, zAlen_10, zAlen_11, zbd_t, zbd_f, zb_t, zb_f, zset_set, s_one0, s_one1, zis_so, y1, s_itemOf y2 (by omega), ed, e, s_max]
theorem s_lastDay (x : XM b v R D M) : ∀ (d : Nat) (m y : Int) (K : zK), ((0 ≤ m ∧ m < 6) ∧ D m = true) → zC (d + 2) 46 [.ref (b + 12), .int (zi m), .int (zi y)] M K = K (some (.int (zi (y + R 13 m - 1)))) M := by
  intro d m y K h
  obtain ⟨⟨h1, h2⟩, h3⟩ := h
  obtain ⟨y1, y2, y3, y4, y5⟩ := x
  have ed : zdu D (R 13) m = R 13 m := by unfold zdu; rw [if_pos h3]
  simp (disch := omega) only [zen_46, e_46_0, e_46_1, e_46_2, e_46_5, e_46_6, e_46_9, e_46_10, e_46_11, e_46_12, zgf_4_2, zPa_some, zPn_some, zRK_some, zRK_none, zCk_t, zis_ob, zget_set_eq, zget_set_ne, zAld_10, zAld_11, zAst_10, zAst_11, zAlen_10, zAlen_11, zbd_t, zbd_f, zb_t, zb_f, zset_set, s_one0, s_one1, zis_so, y1, s_itemOf y4 (by omega), ed]
theorem s_isInTime (x : XM b v R D M) (rm : RM R D) : ∀ (d : Nat) (m y : Int) (K : zK), ((0 ≤ m ∧ m < 6 ∧ -1 ≤ y ∧ y ≤ 2000) ∧ D m = true) → zC (d + 3) 47 [.ref (b + 12), .int (zi m), .int (zi y)] M K = K (some (.int (zi (zb (decide (y + R 13 m - 1 ≤ R 12 m)))))) M := by
  intro d m y K h
  obtain ⟨⟨h1, h2, h4, h5⟩, h3⟩ := h
  have e := s_lastDay x
  obtain ⟨y1, y2, y3, y4, y5⟩ := x
  have r1 := rm.1 m h1 h2
  have ed : zdu D (R 12) m = R 12 m := by unfold zdu; rw [if_pos h3]
  have e2 : ∀ (d : Nat) (K : zK), zC (d + 2) 46 [.ref (b + 12), .int (zi m), .int (zi y)] M K = K (some (.int (zi (y + R 13 m - 1)))) M := fun d K => e d m y K ⟨⟨h1, h2⟩, h3⟩
  by_cases c : y + R 13 m - 1 ≤ R 12 m
  · rw [decide_eq_true c]
    simp (disch := omega) only [zen_47, e_47_0, e_47_1, e_47_2, e_47_3, e_47_6, e_47_7, e_47_10, e_47_11, e_47_14t, e_47_14f, e_47_17, e_47_18, e_47_21, e_47_22, zgf_4_1, zPa_some, zPn_some, zRK_some, zRK_none, zCk_t, zis_ob, zget_set_eq, zget_set_ne, zAld_10, zAld_11, zAst_10, zAst_11, zAlen_10, zAlen_11, zbd_t, zbd_f, zb_t, zb_f, zset_set, s_one0, s_one1, zis_so, y1, s_itemOf y3 (by omega), ed, e2]
  · rw [decide_eq_false c]
    simp (disch := omega) only [zen_47, e_47_0, e_47_1, e_47_2, e_47_3, e_47_6, e_47_7, e_47_10, e_47_11, e_47_14t, e_47_14f, e_47_17, e_47_18, e_47_21, e_47_22, zgf_4_1, zPa_some, zPn_some, zRK_some, zRK_none, zCk_t, zis_ob, zget_set_eq, zget_set_ne, zAld_10, zAld_11, zAst_10, zAst_11, zAlen_10, zAlen_11, zbd_t, zbd_f, zb_t, zb_f, zset_set, s_one0, s_one1, zis_so, y1, s_itemOf y3 (by omega), ed, e2]
theorem eeT_rng {e : Int → Int} (rm : RM R D) {S m : Int} (h : 0 ≤ m ∧ m < 6) : 0 ≤ eeT R e S m ∧ eeT R e S m ≤ 1000 := by
  have r := rm.1 m h.1 h.2
  constructor
  · refine zmn_le.mpr ⟨by split <;> omega, fun j _ _ _ => by omega⟩
  · have := (zmn_le (C := fun b => bt (rs S m) b && decide (e (rs S m * 6 + b) < 1000)) (g := fun b => max (R 11 m) (e (rs S m * 6 + b) + R 14 (b * 6 + m) + 1)) (n := 6) (i := 0) (s := if rs S m = 0 then R 11 m else 1000)).mp (Int.le_refl _)
    have h1 := this.1
    unfold eeT
    split at h1 <;> omega
theorem HKe_rng {e : Int → Int} (rm : RM R D) {n S m : Int} (hk : HKe R W e n) (h : 1 ≤ S ∧ S < n ∧ 0 ≤ m ∧ m < 6) : -1 ≤ e (S * 6 + m) ∧ e (S * 6 + m) ≤ 1000 := by
  have r := rm.1 m (by omega) (by omega)
  have t := eeT_rng (e := e) (S := S) rm (m := m) (by omega)
  rw [hk S m (by omega) (by omega) (by omega) (by omega)]
  split
  · unfold eeS
    split <;> omega
  · omega
theorem zmn_congr {C C' : Int → Bool} {g g' : Int → Int} {n : Nat} {i s : Int} (h1 : ∀ j, i ≤ j → j < i + n → C j = C' j) (h2 : ∀ j, i ≤ j → j < i + n → C j = true → g j = g' j) : zmn C g n i s = zmn C' g' n i s := by
  refine zfor_congr n i s (fun j t a1 a2 => ?_)
  rw [← h1 j a1 a2]
  cases c : C j with
  | true => rw [if_pos rfl, if_pos rfl, h2 j a1 a2 c]
  | false => rw [if_neg (by decide), if_neg (by decide)]
theorem eeT_congr {e e' : Int → Int} {S m : Int} (h : 1 ≤ S ∧ S < 64 ∧ 0 ≤ m ∧ m < 6) (b1 : bt S m = true) (h1 : ∀ j, 6 ≤ j → j < S * 6 → e j = e' j) : eeT R e S m = eeT R e' S m := by
  have rr := rs_rng (S := S) (m := m) (by omega)
  have rl := rr.2.2 b1
  have key : ∀ b, 0 ≤ b → b < 6 → bt (rs S m) b = true → e (rs S m * 6 + b) = e' (rs S m * 6 + b) := fun b q1 q2 q3 => by
    have := bt_pos (by omega) q3
    exact h1 _ (by omega) (by omega)
  refine zmn_congr (fun j q1 q2 => ?_) (fun j q1 q2 q3 => ?_)
  · cases c : bt (rs S m) j with
    | true => rw [key j q1 (by omega) c]
    | false => rfl
  · rw [Bool.and_eq_true_iff] at q3
    rw [key j q1 (by omega) q3.1]
theorem eeS_congr {e e' : Int → Int} {S m : Int} (h : 1 ≤ S ∧ S < 64 ∧ 0 ≤ m ∧ m < 6) (b1 : bt S m = true) (h1 : ∀ j, 6 ≤ j → j < S * 6 → e j = e' j) : eeS R e S m = eeS R e' S m := by
  unfold eeS
  rw [eeT_congr h b1 h1]
def finS (R : Nat → Int → Int) (m t : Int) : Int := if t < 1000 ∧ t + R 13 m - 1 ≤ R 12 m then t + R 13 m - 1 else 1000
theorem l_55 {e so ow st : Int → Int} {lt : Int} (x : PL b v R D e so ow st lt M) (rm : RM R D) (S m : Int) (h : 1 ≤ S ∧ S < 64 ∧ 0 ≤ m ∧ m < 6) (hk : HKe R W e S) (b1 : bt S m = true) (hd : D m = true) : ∀ (n : Nat) (i t : Int) (u : Option Value), i + n = 6 → 0 ≤ i → (0 ≤ t ∧ t ≤ 1000) → ∀ (d : Nat) (K : zK), Ev (d + 4) 55 34 [some (.ref (b + 17)), some (.ref (b + 12)), some (.int (zi S)), some (.int (zi m)), some (.int (zi (rs S m))), some (.int (zi t)), some (.int (zi i)), u] [.int (zi 6), .int (zi i)] M K = K (some (.int (zi (finS R m (zmn (fun b => bt (rs S m) b && decide (e (rs S m * 6 + b) < 1000)) (fun b => max (R 11 m) (e (rs S m * 6 + b) + R 14 (b * 6 + m) + 1)) n i t))))) M := by
  intro n
  obtain ⟨x0, x1, x2, x3, x4, x5⟩ := x
  have rr := rs_rng (S := S) (m := m) (by omega)
  have rl := rr.2.2 b1
  have r := rm.1 m (by omega) (by omega)
  have y1 := x0.1
  have e1 := s_isInTime x0 rm
  have e2 := s_lastDay x0
  have e3 := s_startBehind x0 rm
  have e4 := s_itemOf x2 (by omega)
  induction n with
  | zero =>
    intro i t u hi h0 ht d K
    obtain rfl : i = 6 := by omega
    rw [show zmn (fun b => bt (rs S m) b && decide (e (rs S m * 6 + b) < 1000)) (fun b => max (R 11 m) (e (rs S m * 6 + b) + R 14 (b * 6 + m) + 1)) 0 6 t = t from rfl]
    have e1' : ∀ (d : Nat) (K : zK), zC (d + 3) 47 [.ref (b + 12), .int (zi m), .int (zi t)] M K = K (some (.int (zi (zb (decide (t + R 13 m - 1 ≤ R 12 m)))))) M := fun d K => e1 d m t K ⟨by omega, hd⟩
    have e2' : ∀ (d : Nat) (K : zK), zC (d + 2) 46 [.ref (b + 12), .int (zi m), .int (zi t)] M K = K (some (.int (zi (t + R 13 m - 1)))) M := fun d K => e2 d m t K ⟨by omega, hd⟩
    unfold finS
    by_cases c1 : t < 1000
    · by_cases c2 : t + R 13 m - 1 ≤ R 12 m
      · rw [if_pos ⟨c1, c2⟩]
        rw [decide_eq_true c2] at e1'
        simp (disch := omega) only [zen_55, e_55_0, e_55_1, e_55_2, e_55_3, e_55_4, e_55_5, e_55_6, e_55_7, e_55_9, e_55_11t, e_55_11f, e_55_14, e_55_15, e_55_16, e_55_19, e_55_22, e_55_25, e_55_27, e_55_28, e_55_30, e_55_32, e_55_34t, e_55_34f, e_55_37, e_55_39, e_55_41, e_55_44t, e_55_44f, e_55_47, e_55_48, e_55_51, e_55_53, e_55_55, e_55_56, e_55_58, e_55_59, e_55_62, e_55_65, e_55_68, e_55_70, e_55_72, e_55_75t, e_55_75f, e_55_78, e_55_80, e_55_81, e_55_83, e_55_85, e_55_86, e_55_89, e_55_92, e_55_94, e_55_97, e_55_100, e_55_102, e_55_105t, e_55_105f, e_55_108, e_55_109, e_55_110, e_55_112, e_55_115t, e_55_115f, e_55_118, e_55_119, e_55_120, e_55_122, e_55_125, e_55_128, e_55_131, zgf_5_0, zPa_some, zPn_some, zRK_some, zRK_none, zCk_t, zis_ob, zget_set_eq, zget_set_ne, zAld_10, zAld_11, zAst_10, zAst_11, zAlen_10, zAlen_11, zbd_t, zbd_f, zb_t, zb_f, zset_set, s_one0, s_one1, zis_so, y1, e1', e2']
      · rw [if_neg (fun z => c2 z.2)]
        rw [decide_eq_false c2] at e1'
        simp (disch := omega) only [zen_55, e_55_0, e_55_1, e_55_2, e_55_3, e_55_4, e_55_5, e_55_6, e_55_7, e_55_9, e_55_11t, e_55_11f, e_55_14, e_55_15, e_55_16, e_55_19, e_55_22, e_55_25, e_55_27, e_55_28, e_55_30, e_55_32, e_55_34t, e_55_34f, e_55_37, e_55_39, e_55_41, e_55_44t, e_55_44f, e_55_47, e_55_48, e_55_51, e_55_53, e_55_55, e_55_56, e_55_58, e_55_59, e_55_62, e_55_65, e_55_68, e_55_70, e_55_72, e_55_75t, e_55_75f, e_55_78, e_55_80, e_55_81, e_55_83, e_55_85, e_55_86, e_55_89, e_55_92, e_55_94, e_55_97, e_55_100, e_55_102, e_55_105t, e_55_105f, e_55_108, e_55_109, e_55_110, e_55_112, e_55_115t, e_55_115f, e_55_118, e_55_119, e_55_120, e_55_122, e_55_125, e_55_128, e_55_131, zgf_5_0, zPa_some, zPn_some, zRK_some, zRK_none, zCk_t, zis_ob, zget_set_eq, zget_set_ne, zAld_10, zAld_11, zAst_10, zAst_11, zAlen_10, zAlen_11, zbd_t, zbd_f, zb_t, zb_f, zset_set, s_one0, s_one1, zis_so, y1, e1']
    · rw [if_neg (fun z => c1 z.1)]
      simp (disch := omega) only [zen_55, e_55_0, e_55_1, e_55_2, e_55_3, e_55_4, e_55_5, e_55_6, e_55_7, e_55_9, e_55_11t, e_55_11f, e_55_14, e_55_15, e_55_16, e_55_19, e_55_22, e_55_25, e_55_27, e_55_28, e_55_30, e_55_32, e_55_34t, e_55_34f, e_55_37, e_55_39, e_55_41, e_55_44t, e_55_44f, e_55_47, e_55_48, e_55_51, e_55_53, e_55_55, e_55_56, e_55_58, e_55_59, e_55_62, e_55_65, e_55_68, e_55_70, e_55_72, e_55_75t, e_55_75f, e_55_78, e_55_80, e_55_81, e_55_83, e_55_85, e_55_86, e_55_89, e_55_92, e_55_94, e_55_97, e_55_100, e_55_102, e_55_105t, e_55_105f, e_55_108, e_55_109, e_55_110, e_55_112, e_55_115t, e_55_115f, e_55_118, e_55_119, e_55_120, e_55_122, e_55_125, e_55_128, e_55_131, zgf_5_0, zPa_some, zPn_some, zRK_some, zRK_none, zCk_t, zis_ob, zget_set_eq, zget_set_ne, zAld_10, zAld_11, zAst_10, zAst_11, zAlen_10, zAlen_11, zbd_t, zbd_f, zb_t, zb_f, zset_set, s_one0, s_one1, zis_so]
  | succ n ih =>
    intro i t u hi h0 ht d K
    have es : ∀ s, zmn (fun b => bt (rs S m) b && decide (e (rs S m * 6 + b) < 1000)) (fun b => max (R 11 m) (e (rs S m * 6 + b) + R 14 (b * 6 + m) + 1)) (n + 1) i s = zmn (fun b => bt (rs S m) b && decide (e (rs S m * 6 + b) < 1000)) (fun b => max (R 11 m) (e (rs S m * 6 + b) + R 14 (b * 6 + m) + 1)) n (i + 1) (if (bt (rs S m) i && decide (e (rs S m * 6 + i) < 1000)) = true then min s (max (R 11 m) (e (rs S m * 6 + i) + R 14 (i * 6 + m) + 1)) else s) := fun _ => rfl
    rw [es]
    have r14 := rm.2 (i * 6 + m) (by omega) (by omega)
    cases f : bt (rs S m) i with
    | false =>
      rw [Bool.false_and, if_neg (by decide), ← ih (i + 1) t (some (.int (zi 1000))) (by omega) (by omega) ht d K]
      simp (disch := omega) only [zen_55, e_55_0, e_55_1, e_55_2, e_55_3, e_55_4, e_55_5, e_55_6, e_55_7, e_55_9, e_55_11t, e_55_11f, e_55_14, e_55_15, e_55_16, e_55_19, e_55_22, e_55_25, e_55_27, e_55_28, e_55_30, e_55_32, e_55_34t, e_55_34f, e_55_37, e_55_39, e_55_41, e_55_44t, e_55_44f, e_55_47, e_55_48, e_55_51, e_55_53, e_55_55, e_55_56, e_55_58, e_55_59, e_55_62, e_55_65, e_55_68, e_55_70, e_55_72, e_55_75t, e_55_75f, e_55_78, e_55_80, e_55_81, e_55_83, e_55_85, e_55_86, e_55_89, e_55_92, e_55_94, e_55_97, e_55_100, e_55_102, e_55_105t, e_55_105f, e_55_108, e_55_109, e_55_110, e_55_112, e_55_115t, e_55_115f, e_55_118, e_55_119, e_55_120, e_55_122, e_55_125, e_55_128, e_55_131, zgf_5_0, zPa_some, zPn_some, zRK_some, zRK_none, zCk_t, zis_ob, zget_set_eq, zget_set_ne, zAld_10, zAld_11, zAst_10, zAst_11, zAlen_10, zAlen_11, zbd_t, zbd_f, zb_t, zb_f, zset_set, s_one0, s_one1, zis_so, s_has, f]
    | true =>
      have p := bt_pos (S := rs S m) (m := i) (by omega) f
      have er := HKe_rng (e := e) rm hk (S := rs S m) (m := i) (by omega)
      rw [Bool.true_and]
      by_cases c : e (rs S m * 6 + i) < 1000
      · rw [decide_eq_true c, if_pos rfl, ← ih (i + 1) _ (some (.int (zi (e (rs S m * 6 + i))))) (by omega) (by omega) (by omega) d K]
        have e3' : ∀ (d : Nat) (K : zK), zC (d + 3) 45 [.ref (b + 12), .int (zi i), .int (zi (e (rs S m * 6 + i))), .int (zi m)] M K = K (some (.int (zi (max (R 11 m) (e (rs S m * 6 + i) + R 14 (i * 6 + m) + 1))))) M := fun d K => e3 d i _ m K ⟨by omega, hd⟩
        simp (disch := omega) only [zen_55, e_55_0, e_55_1, e_55_2, e_55_3, e_55_4, e_55_5, e_55_6, e_55_7, e_55_9, e_55_11t, e_55_11f, e_55_14, e_55_15, e_55_16, e_55_19, e_55_22, e_55_25, e_55_27, e_55_28, e_55_30, e_55_32, e_55_34t, e_55_34f, e_55_37, e_55_39, e_55_41, e_55_44t, e_55_44f, e_55_47, e_55_48, e_55_51, e_55_53, e_55_55, e_55_56, e_55_58, e_55_59, e_55_62, e_55_65, e_55_68, e_55_70, e_55_72, e_55_75t, e_55_75f, e_55_78, e_55_80, e_55_81, e_55_83, e_55_85, e_55_86, e_55_89, e_55_92, e_55_94, e_55_97, e_55_100, e_55_102, e_55_105t, e_55_105f, e_55_108, e_55_109, e_55_110, e_55_112, e_55_115t, e_55_115f, e_55_118, e_55_119, e_55_120, e_55_122, e_55_125, e_55_128, e_55_131, zgf_5_0, zPa_some, zPn_some, zRK_some, zRK_none, zCk_t, zis_ob, zget_set_eq, zget_set_ne, zAld_10, zAld_11, zAst_10, zAst_11, zAlen_10, zAlen_11, zbd_t, zbd_f, zb_t, zb_f, zset_set, s_one0, s_one1, zis_so, x1, y1, s_has, f, e4, e3', s_min]
      · rw [decide_eq_false c, if_neg (by decide), ← ih (i + 1) t (some (.int (zi (e (rs S m * 6 + i))))) (by omega) (by omega) ht d K]
        simp (disch := omega) only [zen_55, e_55_0, e_55_1, e_55_2, e_55_3, e_55_4, e_55_5, e_55_6, e_55_7, e_55_9, e_55_11t, e_55_11f, e_55_14, e_55_15, e_55_16, e_55_19, e_55_22, e_55_25, e_55_27, e_55_28, e_55_30, e_55_32, e_55_34t, e_55_34f, e_55_37, e_55_39, e_55_41, e_55_44t, e_55_44f, e_55_47, e_55_48, e_55_51, e_55_53, e_55_55, e_55_56, e_55_58, e_55_59, e_55_62, e_55_65, e_55_68, e_55_70, e_55_72, e_55_75t, e_55_75f, e_55_78, e_55_80, e_55_81, e_55_83, e_55_85, e_55_86, e_55_89, e_55_92, e_55_94, e_55_97, e_55_100, e_55_102, e_55_105t, e_55_105f, e_55_108, e_55_109, e_55_110, e_55_112, e_55_115t, e_55_115f, e_55_118, e_55_119, e_55_120, e_55_122, e_55_125, e_55_128, e_55_131, zgf_5_0, zPa_some, zPn_some, zRK_some, zRK_none, zCk_t, zis_ob, zget_set_eq, zget_set_ne, zAld_10, zAld_11, zAst_10, zAst_11, zAlen_10, zAlen_11, zbd_t, zbd_f, zb_t, zb_f, zset_set, s_one0, s_one1, zis_so, x1, s_has, f, e4]
theorem s_earliestEnd {e so ow st : Int → Int} {lt : Int} (x : PL b v R D e so ow st lt M) (rm : RM R D) (S m : Int) (h : 1 ≤ S ∧ S < 64 ∧ 0 ≤ m ∧ m < 6) (hk : HKe R W e S) (b1 : bt S m = true) (hd : D m = true) : ∀ (d : Nat) (K : zK), zC (d + 5) 55 [.ref (b + 17), .ref (b + 12), .int (zi S), .int (zi m)] M K = K (some (.int (zi (eeS R e S m)))) M := by
  intro d K
  have r := rm.1 m (by omega) (by omega)
  have y1 := x.1.1
  have e0 := s_earliestStart x.1
  have e0' : ∀ (d : Nat) (K : zK), zC (d + 2) 44 [.ref (b + 12), .int (zi m)] M K = K (some (.int (zi (R 11 m)))) M := fun d K => e0 d m K ⟨by omega, hd⟩
  have rr := rs_rng (S := S) (m := m) (by omega)
  have z1 := zshl_pw (m := m) (by omega)
  have z2 := zand_rest (S := S) (m := m) (by omega)
  by_cases c : rs S m = 0
  · have q := l_55 x rm S m h hk b1 hd 6 0 (R 11 m) none (by omega) (by omega) (by omega) d K
    rw [show eeS R e S m = finS R m (eeT R e S m) from rfl]
    unfold eeT
    rw [if_pos c]
    rw [← q]
    simp (disch := omega) only [zen_55, e_55_0, e_55_1, e_55_2, e_55_3, e_55_4, e_55_5, e_55_6, e_55_7, e_55_9, e_55_11t, e_55_11f, e_55_14, e_55_15, e_55_16, e_55_19, e_55_22, e_55_25, e_55_27, e_55_28, e_55_30, e_55_32, e_55_37, e_55_39, e_55_41, e_55_44t, e_55_44f, e_55_47, e_55_48, e_55_51, e_55_53, e_55_55, e_55_56, e_55_58, e_55_59, e_55_62, e_55_65, e_55_68, e_55_70, e_55_72, e_55_75t, e_55_75f, e_55_78, e_55_80, e_55_81, e_55_83, e_55_85, e_55_86, e_55_89, e_55_92, e_55_94, e_55_97, e_55_100, e_55_102, e_55_105t, e_55_105f, e_55_108, e_55_109, e_55_110, e_55_112, e_55_115t, e_55_115f, e_55_118, e_55_119, e_55_120, e_55_122, e_55_125, e_55_128, e_55_131, zgf_5_0, zPa_some, zPn_some, zRK_some, zRK_none, zCk_t, zis_ob, zget_set_eq, zget_set_ne, zAld_10, zAld_11, zAst_10, zAst_11, zAlen_10, zAlen_11, zbd_t, zbd_f, zb_t, zb_f, zset_set, s_one0, s_one1, zis_so, y1, z1, z2, e0']
  · have q := l_55 x rm S m h hk b1 hd 6 0 1000 none (by omega) (by omega) (by omega) d K
    rw [show eeS R e S m = finS R m (eeT R e S m) from rfl]
    unfold eeT
    rw [if_neg c]
    rw [← q]
    simp (disch := omega) only [zen_55, e_55_0, e_55_1, e_55_2, e_55_3, e_55_4, e_55_5, e_55_6, e_55_7, e_55_9, e_55_11t, e_55_11f, e_55_14, e_55_15, e_55_16, e_55_19, e_55_22, e_55_25, e_55_27, e_55_28, e_55_30, e_55_32, e_55_37, e_55_39, e_55_41, e_55_44t, e_55_44f, e_55_47, e_55_48, e_55_51, e_55_53, e_55_55, e_55_56, e_55_58, e_55_59, e_55_62, e_55_65, e_55_68, e_55_70, e_55_72, e_55_75t, e_55_75f, e_55_78, e_55_80, e_55_81, e_55_83, e_55_85, e_55_86, e_55_89, e_55_92, e_55_94, e_55_97, e_55_100, e_55_102, e_55_105t, e_55_105f, e_55_108, e_55_109, e_55_110, e_55_112, e_55_115t, e_55_115f, e_55_118, e_55_119, e_55_120, e_55_122, e_55_125, e_55_128, e_55_131, zgf_5_0, zPa_some, zPn_some, zRK_some, zRK_none, zCk_t, zis_ob, zget_set_eq, zget_set_ne, zAld_10, zAld_11, zAst_10, zAst_11, zAlen_10, zAlen_11, zbd_t, zbd_f, zb_t, zb_f, zset_set, s_one0, s_one1, zis_so, y1, z1, z2]
def vlS (R : Nat → Int → Int) (W : Int) (e : Int → Int) (S m : Int) : Int := if bt (zand S W) m = true then eeS R e S m else 1000
def upE (R : Nat → Int → Int) (W : Int) (e : Int → Int) (S m : Int) : Int → Int := fun j => if S * 6 ≤ j ∧ j < S * 6 + m then vlS R W e S (j - S * 6) else e j
theorem l_54a (rm : RM R D) (hW : 0 ≤ W ∧ W < 64) (hD : ∀ m, 0 ≤ m → m < 6 → bt W m = D m) (S : Int) (h : 1 ≤ S ∧ S < 64) {e so ow st : Int → Int} {lt : Int} (hk : HKe R W e S) : ∀ (n : Nat) (m t : Int) (M : zM) (u : Option Value), PL b v R D (upE R W e S m) so ow st lt M → m + n = 6 → 0 ≤ m → (-1 ≤ t ∧ t ≤ 1000) → ∃ M' u', (∀ (d : Nat) (K : zK), Ev (d + 5) 54 29 [some (.ref (b + 17)), some (.ref (b + 12)), some (.int (zi W)), some (.int (zi S)), some (.int (zi t)), some (.int (zi m)), u] [.int (zi 6), .int (zi m)] M K = Ev (d + 5) 54 90 [some (.ref (b + 17)), some (.ref (b + 12)), some (.int (zi W)), some (.int (zi S)), some (.int (zi (zfor (fun m s => min s (vlS R W e S m)) n m t))), some (.int (zi 6)), u'] [] M' K) ∧ PL b v R D (upE R W e S 6) so ow st lt M' ∧ zFr (b + 17) 5 M M' := by
  intro n
  induction n with
  | zero =>
    intro m t M u x hm h0 ht
    obtain rfl : m = 6 := by omega
    refine ⟨M, u, fun d K => ?_, x, zFr_refl⟩
    simp (disch := omega) only [zen_54, e_54_0, e_54_1, e_54_4, e_54_5, e_54_6, e_54_9, e_54_10, e_54_11, e_54_12, e_54_14t, e_54_14f, e_54_17, e_54_20, e_54_22, e_54_23, e_54_25, e_54_27, e_54_29t, e_54_29f, e_54_32, e_54_33, e_54_34, e_54_35, e_54_37, e_54_40t, e_54_40f, e_54_43, e_54_44, e_54_45, e_54_46, e_54_48, e_54_51, e_54_54, e_54_57, e_54_59, e_54_60, e_54_63, e_54_64, e_54_66, e_54_67, e_54_69, e_54_70, e_54_72, e_54_75, e_54_77, e_54_79, e_54_82, e_54_84, e_54_87, e_54_91, e_54_94, e_54_95, e_54_97, e_54_100, e_54_103, e_54_106, zgf_5_0, zgf_5_1, zPa_some, zPn_some, zRK_some, zRK_none, zCk_t, zis_ob, zget_set_eq, zget_set_ne, zAld_10, zAld_11, zAst_10, zAst_11, zAlen_10, zAlen_11, zbd_t, zbd_f, zb_t, zb_f, zset_set, s_one0, s_one1, zis_so, zfor_0]
  | succ n ih =>
    intro m t M u x hm h0 ht
    have r := rm.1 m (by omega) (by omega)
    have zr := zand_rng (x := S) (y := W) (by omega)
    have hk' : HKe R W (upE R W e S m) S := by
      intro S' m' a1 a2 a3 a4
      have e1 : upE R W e S m (S' * 6 + m') = e (S' * 6 + m') := if_neg (by omega)
      rw [e1, hk S' m' a1 a2 a3 a4]
      cases c : bt (zand S' W) m' with
      | true =>
        rw [bt_and (by omega), Bool.and_eq_true_iff] at c
        rw [if_pos rfl, if_pos rfl]
        exact eeS_congr (by omega) c.1 (fun j b1 b2 => (if_neg (by omega)).symm)
      | false => rw [if_neg (by decide), if_neg (by decide)]
    have y := PL_e (e' := zu (upE R W e S m) (S * 6 + m) (vlS R W e S m)) x
    have y2 := PL_ext (e' := upE R W e S (m + 1)) (so' := so) (ow' := ow) (st' := st) y (fun j a1 a2 => by
      unfold zu upE
      by_cases q : j = S * 6 + m
      · rw [if_pos q, if_pos (by omega), show j - S * 6 = m by omega]
      · rw [if_neg q]
        by_cases q2 : S * 6 ≤ j ∧ j < S * 6 + m
        · rw [if_pos q2, if_pos (by omega)]
        · rw [if_neg q2, if_neg (by omega)]) (fun _ _ _ => rfl) (fun _ _ _ => rfl) (fun _ _ _ => rfl)
    have tr := eeT_rng (e := e) (S := S) rm (m := m) (by omega)
    have vr : -1 ≤ vlS R W e S m ∧ vlS R W e S m ≤ 1000 := by
      unfold vlS eeS
      split
      · split <;> omega
      · omega
    obtain ⟨M', u', a1, a2, a3⟩ := ih (m + 1) (min t (vlS R W e S m)) _ (some (.int (zi (vlS R W e S m)))) y2 (by omega) (by omega) (by omega)
    refine ⟨M', u', fun d K => ?_, a2, zFr_trans (zFr_set (by omega)) a3⟩
    rw [zfor_s]
    refine Eq.trans ?_ (a1 d K)
    obtain ⟨x0, x1, x2, x3, x4, x5⟩ := x
    have y1 := x0.1
    have ep := s_putItem x2 (by omega)
    cases c : bt (zand S W) m with
    | true =>
      have c2 := c
      rw [bt_and (by omega), Bool.and_eq_true_iff] at c2
      have ee := s_earliestEnd (M := M) ⟨x0, x1, x2, x3, x4, x5⟩ rm S m (by omega) hk' c2.1 (by rw [← hD m (by omega) (by omega)]; exact c2.2)
      have e5 : eeS R (upE R W e S m) S m = vlS R W e S m := by
        unfold vlS
        rw [c, if_pos rfl]
        exact eeS_congr (by omega) c2.1 (fun j b1 b2 => if_neg (by omega))
      rw [e5] at ee
      simp (disch := omega) only [zen_54, e_54_0, e_54_1, e_54_4, e_54_5, e_54_6, e_54_9, e_54_10, e_54_11, e_54_12, e_54_14t, e_54_14f, e_54_17, e_54_20, e_54_22, e_54_23, e_54_25, e_54_27, e_54_29t, e_54_29f, e_54_32, e_54_33, e_54_34, e_54_35, e_54_37, e_54_40t, e_54_40f, e_54_43, e_54_44, e_54_45, e_54_46, e_54_48, e_54_51, e_54_54, e_54_57, e_54_59, e_54_60, e_54_63, e_54_64, e_54_66, e_54_67, e_54_69, e_54_70, e_54_72, e_54_75, e_54_77, e_54_79, e_54_82, e_54_84, e_54_87, e_54_91, e_54_94, e_54_95, e_54_97, e_54_100, e_54_103, e_54_106, zgf_5_0, zgf_5_1, zPa_some, zPn_some, zRK_some, zRK_none, zCk_t, zis_ob, zget_set_eq, zget_set_ne, zAld_10, zAld_11, zAst_10, zAst_11, zAlen_10, zAlen_11, zbd_t, zbd_f, zb_t, zb_f, zset_set, s_one0, s_one1, zis_so, x1, y1, s_has, c, ee, ep, s_min]
    | false =>
      have e5 : vlS R W e S m = 1000 := by unfold vlS; rw [c, if_neg (by decide)]
      rw [e5]
      simp (disch := omega) only [zen_54, e_54_0, e_54_1, e_54_4, e_54_5, e_54_6, e_54_9, e_54_10, e_54_11, e_54_12, e_54_14t, e_54_14f, e_54_17, e_54_20, e_54_22, e_54_23, e_54_25, e_54_27, e_54_29t, e_54_29f, e_54_32, e_54_33, e_54_34, e_54_35, e_54_37, e_54_40t, e_54_40f, e_54_43, e_54_44, e_54_45, e_54_46, e_54_48, e_54_51, e_54_54, e_54_57, e_54_59, e_54_60, e_54_63, e_54_64, e_54_66, e_54_67, e_54_69, e_54_70, e_54_72, e_54_75, e_54_77, e_54_79, e_54_82, e_54_84, e_54_87, e_54_91, e_54_94, e_54_95, e_54_97, e_54_100, e_54_103, e_54_106, zgf_5_0, zgf_5_1, zPa_some, zPn_some, zRK_some, zRK_none, zCk_t, zis_ob, zget_set_eq, zget_set_ne, zAld_10, zAld_11, zAst_10, zAst_11, zAlen_10, zAlen_11, zbd_t, zbd_f, zb_t, zb_f, zset_set, s_one0, s_one1, zis_so, x1, s_has, c, ep, s_min]
theorem l_54 (rm : RM R D) (hW : 0 ≤ W ∧ W < 64) (hD : ∀ m, 0 ≤ m → m < 6 → bt W m = D m) {ow st : Int → Int} {lt : Int} : ∀ (n : Nat) (S : Int) (e so : Int → Int) (M : zM) (u4 u5 u6 : Option Value), PL b v R D e so ow st lt M → HKe R W e S → (∀ S', 0 ≤ S' → S' < S → so S' = soS e S') → S + n = 64 → 1 ≤ S → ∃ M' e' so', (∀ (d : Nat) (K : zK), Ev (d + 5) 54 14 [some (.ref (b + 17)), some (.ref (b + 12)), some (.int (zi W)), some (.int (zi S)), u4, u5, u6] [.int (zi 64), .int (zi S)] M K = K none M') ∧ PL b v R D e' so' ow st lt M' ∧ HKe R W e' 64 ∧ (∀ S', 0 ≤ S' → S' < 64 → so' S' = soS e' S') ∧ zFr (b + 17) 5 M M' := by
  intro n
  induction n with
  | zero =>
    intro S e so M u4 u5 u6 x hk hs hS h1
    obtain rfl : S = 64 := by omega
    refine ⟨M, e, so, fun d K => ?_, x, hk, hs, zFr_refl⟩
    simp (disch := omega) only [zen_54, e_54_0, e_54_1, e_54_4, e_54_5, e_54_6, e_54_9, e_54_10, e_54_11, e_54_12, e_54_14t, e_54_14f, e_54_17, e_54_20, e_54_22, e_54_23, e_54_25, e_54_27, e_54_32, e_54_33, e_54_34, e_54_35, e_54_37, e_54_40t, e_54_40f, e_54_43, e_54_44, e_54_45, e_54_46, e_54_48, e_54_51, e_54_54, e_54_57, e_54_59, e_54_60, e_54_63, e_54_64, e_54_66, e_54_67, e_54_69, e_54_70, e_54_72, e_54_75, e_54_77, e_54_79, e_54_82, e_54_84, e_54_87, e_54_90, e_54_91, e_54_94, e_54_95, e_54_97, e_54_100, e_54_103, e_54_106, zgf_5_0, zgf_5_1, zPa_some, zPn_some, zRK_some, zRK_none, zCk_t, zis_ob, zget_set_eq, zget_set_ne, zAld_10, zAld_11, zAst_10, zAst_11, zAlen_10, zAlen_11, zbd_t, zbd_f, zb_t, zb_f, zset_set, s_one0, s_one1, zis_so]
  | succ n ih =>
    intro S e so M u4 u5 u6 x hk hs hS h1
    have x0 := PL_ext (e' := upE R W e S 0) (so' := so) (ow' := ow) (st' := st) x (fun j a1 a2 => (if_neg (by omega)).symm) (fun _ _ _ => rfl) (fun _ _ _ => rfl) (fun _ _ _ => rfl)
    obtain ⟨M1, u', a1, a2, a3⟩ := l_54a rm hW hD S (by omega) hk 6 0 1000 M u6 x0 (by omega) (by omega) (by omega)
    have same : ∀ j, j < S * 6 → upE R W e S 6 j = e j := fun j q => if_neg (by omega)
    have at' : ∀ m, 0 ≤ m → m < 6 → upE R W e S 6 (S * 6 + m) = vlS R W e S m := fun m q1 q2 => by
      unfold upE
      rw [if_pos (by omega), show S * 6 + m - S * 6 = m by omega]
    have hk2 : HKe R W (upE R W e S 6) (S + 1) := by
      intro S' m' b1 b2 b3 b4
      by_cases q : S' = S
      · subst q
        rw [at' m' b3 b4]
        unfold vlS
        cases c : bt (zand S' W) m' with
        | true =>
          rw [bt_and (by omega), Bool.and_eq_true_iff] at c
          rw [if_pos rfl, if_pos rfl]
          exact eeS_congr (by omega) c.1 (fun j c1 c2 => (same j c2).symm)
        | false => rw [if_neg (by decide), if_neg (by decide)]
      · rw [same _ (by omega), hk S' m' b1 (by omega) b3 b4]
        cases c : bt (zand S' W) m' with
        | true =>
          rw [bt_and (by omega), Bool.and_eq_true_iff] at c
          rw [if_pos rfl, if_pos rfl]
          exact eeS_congr (by omega) c.1 (fun j c1 c2 => (same j (by omega)).symm)
        | false => rw [if_neg (by decide), if_neg (by decide)]
    have so1 : zfor (fun m s => min s (vlS R W e S m)) 6 0 1000 = soS (upE R W e S 6) S := by
      unfold soS
      rw [if_neg (by omega)]
      exact zfor_congr 6 0 1000 (fun m t q1 q2 => by rw [at' m q1 (by omega)])
    have y := PL_so (so' := zu so S (soS (upE R W e S 6) S)) a2
    obtain ⟨M', e', so', c1, c2, c3, c4, c5⟩ := ih (S + 1) _ _ _ (some (.int (zi (soS (upE R W e S 6) S)))) (some (.int (zi 6))) u' y hk2 (fun S' q1 q2 => by
      unfold zu
      by_cases q : S' = S
      · rw [if_pos q, q]
      · rw [if_neg q, hs S' q1 (by omega)]
        unfold soS
        split
        · rfl
        · exact zfor_congr 6 0 1000 (fun m t q3 q4 => by rw [same _ (by omega)])) (by omega) (by omega)
    refine ⟨M', e', so', fun d K => ?_, c2, c3, c4, zFr_trans a3 (zFr_trans (zFr_set (by omega)) c5)⟩
    obtain ⟨z0, z1, z2, z3, z4, z5⟩ := a2
    have ep := s_putItem z3 (by omega)
    rw [← c1 d K]
    simp (disch := omega) only [zen_54, e_54_0, e_54_1, e_54_4, e_54_5, e_54_6, e_54_9, e_54_10, e_54_11, e_54_12, e_54_14t, e_54_14f, e_54_17, e_54_20, e_54_22, e_54_23, e_54_25, e_54_27, e_54_32, e_54_33, e_54_34, e_54_35, e_54_37, e_54_40t, e_54_40f, e_54_43, e_54_44, e_54_45, e_54_46, e_54_48, e_54_51, e_54_54, e_54_57, e_54_59, e_54_60, e_54_63, e_54_64, e_54_66, e_54_67, e_54_69, e_54_70, e_54_72, e_54_75, e_54_77, e_54_79, e_54_82, e_54_84, e_54_87, e_54_91, e_54_94, e_54_95, e_54_97, e_54_100, e_54_103, e_54_106, zgf_5_0, zgf_5_1, zPa_some, zPn_some, zRK_some, zRK_none, zCk_t, zis_ob, zget_set_eq, zget_set_ne, zAld_10, zAld_11, zAst_10, zAst_11, zAlen_10, zAlen_11, zbd_t, zbd_f, zb_t, zb_f, zset_set, s_one0, s_one1, zis_so]
    rw [a1 d K, so1]
    simp (disch := omega) only [zen_54, e_54_0, e_54_1, e_54_4, e_54_5, e_54_6, e_54_9, e_54_10, e_54_11, e_54_12, e_54_17, e_54_20, e_54_22, e_54_23, e_54_25, e_54_27, e_54_32, e_54_33, e_54_34, e_54_35, e_54_37, e_54_40t, e_54_40f, e_54_43, e_54_44, e_54_45, e_54_46, e_54_48, e_54_51, e_54_54, e_54_57, e_54_59, e_54_60, e_54_63, e_54_64, e_54_66, e_54_67, e_54_69, e_54_70, e_54_72, e_54_75, e_54_77, e_54_79, e_54_82, e_54_84, e_54_87, e_54_90, e_54_91, e_54_94, e_54_95, e_54_97, e_54_100, e_54_103, e_54_106, zgf_5_0, zgf_5_1, zPa_some, zPn_some, zRK_some, zRK_none, zCk_t, zis_ob, zget_set_eq, zget_set_ne, zAld_10, zAld_11, zAst_10, zAst_11, zAlen_10, zAlen_11, zbd_t, zbd_f, zb_t, zb_f, zset_set, s_one0, s_one1, zis_so, z1, ep]
theorem s_findEnds (rm : RM R D) (hW : 0 ≤ W ∧ W < 64) (hD : ∀ m, 0 ≤ m → m < 6 → bt W m = D m) {e so ow st : Int → Int} {lt : Int} (x : PL b v R D e so ow st lt M) : ∃ M' e' so', (∀ (d : Nat) (K : zK), zC (d + 6) 54 [.ref (b + 17), .ref (b + 12), .int (zi W)] M K = K none M') ∧ PL b v R D e' so' ow st lt M' ∧ HKe R W e' 64 ∧ (∀ S', 0 ≤ S' → S' < 64 → so' S' = soS e' S') ∧ zFr (b + 17) 5 M M' := by
  have y := PL_so (so' := zu so 0 (-1)) x
  obtain ⟨M', e', so', c1, c2, c3, c4, c5⟩ := l_54 rm hW hD 63 1 e _ _ none none none y (fun S m a1 a2 _ _ => by omega) (fun S' q1 q2 => by
    obtain rfl : S' = 0 := by omega
    rfl) (by omega) (by omega)
  refine ⟨M', e', so', fun d K => ?_, c2, c3, c4, zFr_trans (zFr_set (by omega)) c5⟩
  obtain ⟨z0, z1, z2, z3, z4, z5⟩ := x
  have ep := s_putItem z3 (by omega)
  simp (disch := omega) only [zen_54, e_54_0, e_54_1, e_54_4, e_54_5, e_54_6, e_54_9, e_54_10, e_54_11, e_54_12, e_54_17, e_54_20, e_54_22, e_54_23, e_54_25, e_54_27, e_54_29t, e_54_29f, e_54_32, e_54_33, e_54_34, e_54_35, e_54_37, e_54_40t, e_54_40f, e_54_43, e_54_44, e_54_45, e_54_46, e_54_48, e_54_51, e_54_54, e_54_57, e_54_59, e_54_60, e_54_63, e_54_64, e_54_66, e_54_67, e_54_69, e_54_70, e_54_72, e_54_75, e_54_77, e_54_79, e_54_82, e_54_84, e_54_87, e_54_90, e_54_91, e_54_94, e_54_95, e_54_97, e_54_100, e_54_103, e_54_106, zgf_5_0, zgf_5_1, zPa_some, zPn_some, zRK_some, zRK_none, zCk_t, zis_ob, zget_set_eq, zget_set_ne, zAld_10, zAld_11, zAst_10, zAst_11, zAlen_10, zAlen_11, zbd_t, zbd_f, zb_t, zb_f, zset_set, s_one0, s_one1, zis_so, z1, ep]
  exact c1 d K
end ENDS
