/-! what is made new -/
theorem znew_sz {M : zM} {n : Nat} {x : zE} : (znew M n x).2.1 = M.2.1 + 1 := rfl
theorem zset_sz {M : zM} {a : Nat} {x : zE} : (zset M a x).2.1 = M.2.1 := rfl
theorem znew_sl {M : zM} {n : Nat} {x : zE} : (znew M n x).2.2.1 = M.2.2.1 + n := rfl
theorem zset_sl {M : zM} {a : Nat} {x : zE} : (zset M a x).2.2.1 = M.2.2.1 := rfl
theorem znew_st {M : zM} {n : Nat} {x : zE} : (znew M n x).1 = M.1 := rfl
theorem zset_st {M : zM} {a : Nat} {x : zE} : (zset M a x).1 = M.1 := rfl
theorem zgn_eq {M : zM} {n a : Nat} {x : zE} (h : a = M.2.1) : zget (znew M n x) a = some x := if_pos h
theorem zgn_ne {M : zM} {n a : Nat} {x : zE} (h : a ≠ M.2.1) : zget (znew M n x) a = zget M a := if_neg h
theorem tn_4 : (4 : Int).toNat = 4 := rfl
theorem tn_6 : (6 : Int).toNat = 6 := rfl
theorem tn_12 : (12 : Int).toNat = 12 := rfl
theorem tn_24 : (24 : Int).toNat = 24 := rfl
theorem tn_36 : (36 : Int).toNat = 36 := rfl
theorem tn_64 : (64 : Int).toNat = 64 := rfl
theorem tn_192 : (192 : Int).toNat = 192 := rfl
theorem tn_384 : (384 : Int).toNat = 384 := rfl
theorem tn_768 : (768 : Int).toNat = 768 := rfl
/-- made at p: n cells from p on, sl slots -/
def nF (p n sl : Nat) (M M' : zM) : Prop := (∀ a, a < p → zget M' a = zget M a) ∧ M'.1 = M.1 ∧ M'.2.1 = p + n ∧ M'.2.2.1 = M.2.2.1 + sl
section INI
variable {p : Nat} {M : zM}
theorem s_init21 (h : zget M p = some (zOb 2 [.int 0, .int 0, .int 0, .int 0])) : ∀ (d : Nat) (K : zK), zC (d + 1) 21 [.ref p] M K = K none (zset M p (zOb 2 [.int (zi 10), .int (zi 0), .int (zi 0), .int (zi 0)])) := by
  intro d K
  simp (disch := omega) only [zen_21, e_21_0, e_21_1, e_21_4, e_21_5, e_21_7, e_21_10, e_21_11, e_21_12, e_21_15, e_21_16, e_21_17, e_21_20, e_21_21, e_21_22, e_21_25, zpf_2_0, zpf_2_1, zpf_2_2, zpf_2_3, zPa_some, zPn_some, zRK_some, zRK_none, zCk_t, zis_ob, zget_set_eq, zget_set_ne, zAld_10, zAld_11, zAst_10, zAst_11, zAlen_10, zAlen_11, zbd_t, zbd_f, zb_t, zb_f, zset_set, s_one0, s_one1, zis_so, h]
theorem s_init11 (h : zget M p = some (zOb 1 [.int 0, .int 0, .int 0, .int 0, .int 0, .int 0, .int 0])) : ∀ (d : Nat) (K : zK), zC (d + 1) 11 [.ref p] M K = K none (zset M p (zOb 1 [.int (zi 0), .int (zi 0), .int (zi 0), .int (zi 0), .int (zi 0), .int (zi 0), .int (zi 0)])) := by
  intro d K
  simp (disch := omega) only [zen_11, e_11_0, e_11_1, e_11_4, e_11_5, e_11_6, e_11_9, e_11_10, e_11_11, e_11_14, e_11_15, e_11_16, e_11_19, e_11_20, e_11_21, e_11_24, e_11_25, e_11_26, e_11_29, e_11_30, e_11_31, e_11_34, e_11_35, e_11_36, e_11_39, zpf_1_0, zpf_1_1, zpf_1_2, zpf_1_3, zpf_1_4, zpf_1_5, zpf_1_6, zPa_some, zPn_some, zRK_some, zRK_none, zCk_t, zis_ob, zget_set_eq, zget_set_ne, zAld_10, zAld_11, zAst_10, zAst_11, zAlen_10, zAlen_11, zbd_t, zbd_f, zb_t, zb_f, zset_set, s_one0, s_one1, zis_so, h]
theorem s_init30 (h : zget M p = some (zOb 3 [.null, .null, .int 0])) (hs : M.2.1 = p + 1) : ∃ M', (∀ (d : Nat) (K : zK), zC (d + 1) 30 [.ref p] M K = K none M') ∧ zget M' p = some (zOb 3 [.ref (p + 1), .ref (p + 2), .int (zi 0)]) ∧ zget M' (p + 1) = some (zA 10 24 (fun _ => 0)) ∧ zget M' (p + 2) = some (zA 10 24 (fun _ => 0)) ∧ nF p 3 48 M M' := by
  have e : ∀ (d : Nat) (K : zK), zC (d + 1) 30 [.ref p] M K = zC (d + 1) 30 [.ref p] M K := fun _ _ => rfl
  conv at e =>
    enter [d, K, 2]
    simp (disch := (first | omega | (simp only [znew_sz, zset_sz]; omega))) only [zen_30, e_30_0, e_30_1, e_30_4, e_30_5, e_30_7, e_30_9, e_30_12, e_30_13, e_30_15, e_30_17, e_30_20, e_30_21, e_30_22, e_30_25, zpf_3_0, zpf_3_1, zpf_3_2, zPa_some, zPn_some, zRK_some, zRK_none, zCk_t, zis_ob, zget_set_eq, zget_set_ne, zAld_10, zAld_11, zAst_10, zAst_11, zAlen_10, zAlen_11, zbd_t, zbd_f, zb_t, zb_f, zset_set, s_one0, s_one1, zis_so, h, hs, zgn_eq, zgn_ne, znew_sz, zset_sz, tn_4, tn_6, tn_12, tn_24, tn_36, tn_64, tn_192, tn_384, tn_768]
  refine ⟨_, e, ?_, ?_, ?_, fun a ha => ?_, rfl, ?_, ?_⟩
  · simp (disch := (first | omega | (simp only [znew_sz, zset_sz]; omega))) only [zget_set_eq, zget_set_ne, zgn_eq, zgn_ne, znew_sz, zset_sz, znew_sl, zset_sl, hs, Nat.add_zero]
  · simp (disch := (first | omega | (simp only [znew_sz, zset_sz]; omega))) only [zget_set_eq, zget_set_ne, zgn_eq, zgn_ne, znew_sz, zset_sz, znew_sl, zset_sl, hs, Nat.add_zero]
  · simp (disch := (first | omega | (simp only [znew_sz, zset_sz]; omega))) only [zget_set_eq, zget_set_ne, zgn_eq, zgn_ne, znew_sz, zset_sz, znew_sl, zset_sl, hs, Nat.add_zero]
  · simp (disch := (first | omega | (simp only [znew_sz, zset_sz]; omega))) only [zget_set_eq, zget_set_ne, zgn_eq, zgn_ne, znew_sz, zset_sz, znew_sl, zset_sl, hs, Nat.add_zero]
  · simp (disch := (first | omega | (simp only [znew_sz, zset_sz]; omega))) only [zget_set_eq, zget_set_ne, zgn_eq, zgn_ne, znew_sz, zset_sz, znew_sl, zset_sl, hs, Nat.add_zero]
  · simp (disch := (first | omega | (simp only [znew_sz, zset_sz]; omega))) only [zget_set_eq, zget_set_ne, zgn_eq, zgn_ne, znew_sz, zset_sz, znew_sl, zset_sl, hs, Nat.add_zero]
theorem s_init49 (h : zget M p = some (zOb 5 [.null, .null, .null, .null, .int 0])) (hs : M.2.1 = p + 1) : ∃ M', (∀ (d : Nat) (K : zK), zC (d + 1) 49 [.ref p] M K = K none M') ∧ zget M' p = some (zOb 5 [.ref (p + 1), .ref (p + 2), .ref (p + 3), .ref (p + 4), .int (zi (-1))]) ∧ zget M' (p + 1) = some (zA 10 384 (fun _ => 0)) ∧ zget M' (p + 2) = some (zA 10 64 (fun _ => 0)) ∧ zget M' (p + 3) = some (zA 10 6 (fun _ => 0)) ∧ zget M' (p + 4) = some (zA 10 6 (fun _ => 0)) ∧ nF p 5 460 M M' := by
  have e : ∀ (d : Nat) (K : zK), zC (d + 1) 49 [.ref p] M K = zC (d + 1) 49 [.ref p] M K := fun _ _ => rfl
  conv at e =>
    enter [d, K, 2]
    simp (disch := (first | omega | (simp only [znew_sz, zset_sz]; omega))) only [zen_49, e_49_0, e_49_1, e_49_4, e_49_5, e_49_8, e_49_10, e_49_13, e_49_14, e_49_16, e_49_18, e_49_21, e_49_22, e_49_24, e_49_26, e_49_29, e_49_30, e_49_32, e_49_34, e_49_37, e_49_38, e_49_39, e_49_42, zpf_5_0, zpf_5_1, zpf_5_2, zpf_5_3, zpf_5_4, zPa_some, zPn_some, zRK_some, zRK_none, zCk_t, zis_ob, zget_set_eq, zget_set_ne, zAld_10, zAld_11, zAst_10, zAst_11, zAlen_10, zAlen_11, zbd_t, zbd_f, zb_t, zb_f, zset_set, s_one0, s_one1, zis_so, h, hs, zgn_eq, zgn_ne, znew_sz, zset_sz, tn_4, tn_6, tn_12, tn_24, tn_36, tn_64, tn_192, tn_384, tn_768]
  refine ⟨_, e, ?_, ?_, ?_, ?_, ?_, fun a ha => ?_, rfl, ?_, ?_⟩
  · simp (disch := (first | omega | (simp only [znew_sz, zset_sz]; omega))) only [zget_set_eq, zget_set_ne, zgn_eq, zgn_ne, znew_sz, zset_sz, znew_sl, zset_sl, hs, Nat.add_zero]
  · simp (disch := (first | omega | (simp only [znew_sz, zset_sz]; omega))) only [zget_set_eq, zget_set_ne, zgn_eq, zgn_ne, znew_sz, zset_sz, znew_sl, zset_sl, hs, Nat.add_zero]
  · simp (disch := (first | omega | (simp only [znew_sz, zset_sz]; omega))) only [zget_set_eq, zget_set_ne, zgn_eq, zgn_ne, znew_sz, zset_sz, znew_sl, zset_sl, hs, Nat.add_zero]
  · simp (disch := (first | omega | (simp only [znew_sz, zset_sz]; omega))) only [zget_set_eq, zget_set_ne, zgn_eq, zgn_ne, znew_sz, zset_sz, znew_sl, zset_sl, hs, Nat.add_zero]
  · simp (disch := (first | omega | (simp only [znew_sz, zset_sz]; omega))) only [zget_set_eq, zget_set_ne, zgn_eq, zgn_ne, znew_sz, zset_sz, znew_sl, zset_sl, hs, Nat.add_zero]
  · simp (disch := (first | omega | (simp only [znew_sz, zset_sz]; omega))) only [zget_set_eq, zget_set_ne, zgn_eq, zgn_ne, znew_sz, zset_sz, znew_sl, zset_sl, hs, Nat.add_zero]
  · simp (disch := (first | omega | (simp only [znew_sz, zset_sz]; omega))) only [zget_set_eq, zget_set_ne, zgn_eq, zgn_ne, znew_sz, zset_sz, znew_sl, zset_sl, hs, Nat.add_zero]
  · simp (disch := (first | omega | (simp only [znew_sz, zset_sz]; omega))) only [zget_set_eq, zget_set_ne, zgn_eq, zgn_ne, znew_sz, zset_sz, znew_sl, zset_sl, hs, Nat.add_zero]
theorem s_new21 (h : zget M p = some (zOb 2 [.int 0, .int 0, .int 0, .int 0])) (hs : M.2.1 = p + 1) : ∃ M', (∀ (d : Nat) (K : zK), zC (d + 1) 21 [.ref p] M K = K none M') ∧ zget M' p = some (zOb 2 [.int (zi 10), .int (zi 0), .int (zi 0), .int (zi 0)]) ∧ nF p 1 0 M M' := by
  have e : ∀ (d : Nat) (K : zK), zC (d + 1) 21 [.ref p] M K = zC (d + 1) 21 [.ref p] M K := fun _ _ => rfl
  conv at e =>
    enter [d, K, 2]
    simp (disch := (first | omega | (simp only [znew_sz, zset_sz]; omega))) only [zen_21, e_21_0, e_21_1, e_21_4, e_21_5, e_21_7, e_21_10, e_21_11, e_21_12, e_21_15, e_21_16, e_21_17, e_21_20, e_21_21, e_21_22, e_21_25, zpf_2_0, zpf_2_1, zpf_2_2, zpf_2_3, zPa_some, zPn_some, zRK_some, zRK_none, zCk_t, zis_ob, zget_set_eq, zget_set_ne, zAld_10, zAld_11, zAst_10, zAst_11, zAlen_10, zAlen_11, zbd_t, zbd_f, zb_t, zb_f, zset_set, s_one0, s_one1, zis_so, h, hs, zgn_eq, zgn_ne, znew_sz, zset_sz, tn_4, tn_6, tn_12, tn_24, tn_36, tn_64, tn_192, tn_384, tn_768]
  refine ⟨_, e, ?_, fun a ha => ?_, rfl, ?_, ?_⟩
  · simp (disch := (first | omega | (simp only [znew_sz, zset_sz]; omega))) only [zget_set_eq, zget_set_ne, zgn_eq, zgn_ne, znew_sz, zset_sz, znew_sl, zset_sl, hs, Nat.add_zero]
  · simp (disch := (first | omega | (simp only [znew_sz, zset_sz]; omega))) only [zget_set_eq, zget_set_ne, zgn_eq, zgn_ne, znew_sz, zset_sz, znew_sl, zset_sl, hs, Nat.add_zero]
  · simp (disch := (first | omega | (simp only [znew_sz, zset_sz]; omega))) only [zget_set_eq, zget_set_ne, zgn_eq, zgn_ne, znew_sz, zset_sz, znew_sl, zset_sl, hs, Nat.add_zero]
  · simp (disch := (first | omega | (simp only [znew_sz, zset_sz]; omega))) only [zget_set_eq, zget_set_ne, zgn_eq, zgn_ne, znew_sz, zset_sz, znew_sl, zset_sl, hs, Nat.add_zero]
theorem s_new11 (h : zget M p = some (zOb 1 [.int 0, .int 0, .int 0, .int 0, .int 0, .int 0, .int 0])) (hs : M.2.1 = p + 1) : ∃ M', (∀ (d : Nat) (K : zK), zC (d + 1) 11 [.ref p] M K = K none M') ∧ zget M' p = some (zOb 1 [.int (zi 0), .int (zi 0), .int (zi 0), .int (zi 0), .int (zi 0), .int (zi 0), .int (zi 0)]) ∧ nF p 1 0 M M' := by
  have e : ∀ (d : Nat) (K : zK), zC (d + 1) 11 [.ref p] M K = zC (d + 1) 11 [.ref p] M K := fun _ _ => rfl
  conv at e =>
    enter [d, K, 2]
    simp (disch := (first | omega | (simp only [znew_sz, zset_sz]; omega))) only [zen_11, e_11_0, e_11_1, e_11_4, e_11_5, e_11_6, e_11_9, e_11_10, e_11_11, e_11_14, e_11_15, e_11_16, e_11_19, e_11_20, e_11_21, e_11_24, e_11_25, e_11_26, e_11_29, e_11_30, e_11_31, e_11_34, e_11_35, e_11_36, e_11_39, zpf_1_0, zpf_1_1, zpf_1_2, zpf_1_3, zpf_1_4, zpf_1_5, zpf_1_6, zPa_some, zPn_some, zRK_some, zRK_none, zCk_t, zis_ob, zget_set_eq, zget_set_ne, zAld_10, zAld_11, zAst_10, zAst_11, zAlen_10, zAlen_11, zbd_t, zbd_f, zb_t, zb_f, zset_set, s_one0, s_one1, zis_so, h, hs, zgn_eq, zgn_ne, znew_sz, zset_sz, tn_4, tn_6, tn_12, tn_24, tn_36, tn_64, tn_192, tn_384, tn_768]
  refine ⟨_, e, ?_, fun a ha => ?_, rfl, ?_, ?_⟩
  · simp (disch := (first | omega | (simp only [znew_sz, zset_sz]; omega))) only [zget_set_eq, zget_set_ne, zgn_eq, zgn_ne, znew_sz, zset_sz, znew_sl, zset_sl, hs, Nat.add_zero]
  · simp (disch := (first | omega | (simp only [znew_sz, zset_sz]; omega))) only [zget_set_eq, zget_set_ne, zgn_eq, zgn_ne, znew_sz, zset_sz, znew_sl, zset_sl, hs, Nat.add_zero]
  · simp (disch := (first | omega | (simp only [znew_sz, zset_sz]; omega))) only [zget_set_eq, zget_set_ne, zgn_eq, zgn_ne, znew_sz, zset_sz, znew_sl, zset_sl, hs, Nat.add_zero]
  · simp (disch := (first | omega | (simp only [znew_sz, zset_sz]; omega))) only [zget_set_eq, zget_set_ne, zgn_eq, zgn_ne, znew_sz, zset_sz, znew_sl, zset_sl, hs, Nat.add_zero]
theorem s_new88 (h : zget M p = some (zOb 7 [.null, .null, .null, .null, .int 0])) (hs : M.2.1 = p + 1) : ∃ M', (∀ (d : Nat) (K : zK), zC (d + 2) 88 [.ref p] M K = K none M') ∧ zget M' p = some (zOb 7 [.ref (p + 1), .ref (p + 2), .ref (p + 3), .ref (p + 4), .int (zi 0)]) ∧ zget M' (p + 1) = some (zA 10 12 (fun _ => 0)) ∧ zget M' (p + 2) = some (zA 10 12 (fun _ => 0)) ∧ zget M' (p + 3) = some (zA 10 12 (fun _ => 0)) ∧ zget M' (p + 4) = some (zOb 2 [.int (zi 10), .int (zi 0), .int (zi 0), .int (zi 0)]) ∧ nF p 5 40 M M' := by
  have e : ∀ (d : Nat) (K : zK), zC (d + 2) 88 [.ref p] M K = zC (d + 2) 88 [.ref p] M K := fun _ _ => rfl
  conv at e =>
    enter [d, K, 2]
    simp (disch := (first | omega | (simp only [znew_sz, zset_sz]; omega))) only [zen_88, e_88_0, e_88_1, e_88_4, e_88_5, e_88_7, e_88_9, e_88_12, e_88_13, e_88_15, e_88_17, e_88_20, e_88_21, e_88_23, e_88_25, e_88_28, e_88_29, e_88_32, e_88_33, e_88_36, e_88_39, e_88_40, e_88_41, e_88_44, zpf_7_0, zpf_7_1, zpf_7_2, zpf_7_3, zpf_7_4, zen_21, e_21_0, e_21_1, e_21_4, e_21_5, e_21_7, e_21_10, e_21_11, e_21_12, e_21_15, e_21_16, e_21_17, e_21_20, e_21_21, e_21_22, e_21_25, zpf_2_0, zpf_2_1, zpf_2_2, zpf_2_3, zPa_some, zPn_some, zRK_some, zRK_none, zCk_t, zis_ob, zget_set_eq, zget_set_ne, zAld_10, zAld_11, zAst_10, zAst_11, zAlen_10, zAlen_11, zbd_t, zbd_f, zb_t, zb_f, zset_set, s_one0, s_one1, zis_so, h, hs, zgn_eq, zgn_ne, znew_sz, zset_sz, tn_4, tn_6, tn_12, tn_24, tn_36, tn_64, tn_192, tn_384, tn_768]
  refine ⟨_, e, ?_, ?_, ?_, ?_, ?_, fun a ha => ?_, rfl, ?_, ?_⟩
  · simp (disch := (first | omega | (simp only [znew_sz, zset_sz]; omega))) only [zget_set_eq, zget_set_ne, zgn_eq, zgn_ne, znew_sz, zset_sz, znew_sl, zset_sl, hs, Nat.add_zero]
  · simp (disch := (first | omega | (simp only [znew_sz, zset_sz]; omega))) only [zget_set_eq, zget_set_ne, zgn_eq, zgn_ne, znew_sz, zset_sz, znew_sl, zset_sl, hs, Nat.add_zero]
  · simp (disch := (first | omega | (simp only [znew_sz, zset_sz]; omega))) only [zget_set_eq, zget_set_ne, zgn_eq, zgn_ne, znew_sz, zset_sz, znew_sl, zset_sl, hs, Nat.add_zero]
  · simp (disch := (first | omega | (simp only [znew_sz, zset_sz]; omega))) only [zget_set_eq, zget_set_ne, zgn_eq, zgn_ne, znew_sz, zset_sz, znew_sl, zset_sl, hs, Nat.add_zero]
  · simp (disch := (first | omega | (simp only [znew_sz, zset_sz]; omega))) only [zget_set_eq, zget_set_ne, zgn_eq, zgn_ne, znew_sz, zset_sz, znew_sl, zset_sl, hs, Nat.add_zero]
  · simp (disch := (first | omega | (simp only [znew_sz, zset_sz]; omega))) only [zget_set_eq, zget_set_ne, zgn_eq, zgn_ne, znew_sz, zset_sz, znew_sl, zset_sl, hs, Nat.add_zero]
  · simp (disch := (first | omega | (simp only [znew_sz, zset_sz]; omega))) only [zget_set_eq, zget_set_ne, zgn_eq, zgn_ne, znew_sz, zset_sz, znew_sl, zset_sl, hs, Nat.add_zero]
  · simp (disch := (first | omega | (simp only [znew_sz, zset_sz]; omega))) only [zget_set_eq, zget_set_ne, zgn_eq, zgn_ne, znew_sz, zset_sz, znew_sl, zset_sl, hs, Nat.add_zero]
def MLo (p : Nat) (f l s : Int → Int) (M : zM) : Prop := zget M p = some (zOb 4 [.ref (p + 1), .ref (p + 2), .ref (p + 3), .ref (p + 4), .int (zi 1)]) ∧ zget M (p + 1) = some (zA 10 6 f) ∧ zget M (p + 2) = some (zA 10 6 l) ∧ zget M (p + 3) = some (zA 10 6 s) ∧ zget M (p + 4) = some (zA 10 36 (fun _ => 0))
theorem l_38 : ∀ (n : Nat) (m : Int) (f l s : Int → Int) (M : zM), MLo p f l s M → m + n = 6 → 0 ≤ m → ∃ M', (∀ (d : Nat) (K : zK), Ev d 38 46 [some (.ref p), some (.int (zi m))] [.int (zi 6), .int (zi m)] M K = K none M') ∧ MLo p (up m 6 (fun _ => -1) f) (up m 6 (fun _ => -1) l) (up m 6 (fun _ => -1) s) M' ∧ zFr (p + 1) 3 M M' := by
  intro n
  induction n with
  | zero =>
    intro m f l s M x hm h0
    obtain rfl : m = 6 := (by omega)
    refine ⟨M, fun d K => ?_, by rw [up_none, up_none, up_none]; exact x, zFr_refl⟩
    simp (disch := omega) only [zen_38, e_38_0, e_38_1, e_38_4, e_38_5, e_38_7, e_38_9, e_38_12, e_38_13, e_38_15, e_38_17, e_38_20, e_38_21, e_38_23, e_38_25, e_38_28, e_38_29, e_38_31, e_38_33, e_38_36, e_38_37, e_38_38, e_38_41, e_38_42, e_38_43, e_38_44, e_38_46t, e_38_46f, e_38_49, e_38_50, e_38_53, e_38_54, e_38_55, e_38_56, e_38_57, e_38_60, e_38_61, e_38_62, e_38_63, e_38_64, e_38_67, e_38_68, e_38_69, e_38_70, e_38_73, e_38_76, zgf_4_0, zgf_4_1, zgf_4_2, zpf_4_0, zpf_4_1, zpf_4_2, zpf_4_3, zpf_4_4, zPa_some, zPn_some, zRK_some, zRK_none, zCk_t, zis_ob, zget_set_eq, zget_set_ne, zAld_10, zAld_11, zAst_10, zAst_11, zAlen_10, zAlen_11, zbd_t, zbd_f, zb_t, zb_f, zset_set, s_one0, s_one1, zis_so]
  | succ n ih =>
    intro m f l s M x hm h0
    obtain ⟨x0, x1, x2, x3, x4⟩ := x
    have y : MLo p (fun j => if j = m then -1 else f j) (fun j => if j = m then -1 else l j) (fun j => if j = m then -1 else s j) (zset (zset (zset M (p + 1) (zA 10 6 (zu f m (-1)))) (p + 2) (zA 10 6 (zu l m (-1)))) (p + 3) (zA 10 6 (zu s m (-1)))) := ⟨(zget_set_ne (by omega)).trans ((zget_set_ne (by omega)).trans ((zget_set_ne (by omega)).trans x0)), (zget_set_ne (by omega)).trans ((zget_set_ne (by omega)).trans zget_set_eq), (zget_set_ne (by omega)).trans zget_set_eq, zget_set_eq, (zget_set_ne (by omega)).trans ((zget_set_ne (by omega)).trans ((zget_set_ne (by omega)).trans x4))⟩
    obtain ⟨M', a1, a2, a3⟩ := ih (m + 1) _ _ _ _ y (by omega) (by omega)
    refine ⟨M', fun d K => ?_, by rw [up_step (by omega), up_step (F := l) (by omega), up_step (F := s) (by omega)]; exact a2, zFr_trans (zFr_trans (zFr_trans (zFr_set (by omega)) (zFr_set (by omega))) (zFr_set (by omega))) a3⟩
    rw [← a1 d K]
    simp (disch := omega) only [zen_38, e_38_0, e_38_1, e_38_4, e_38_5, e_38_7, e_38_9, e_38_12, e_38_13, e_38_15, e_38_17, e_38_20, e_38_21, e_38_23, e_38_25, e_38_28, e_38_29, e_38_31, e_38_33, e_38_36, e_38_37, e_38_38, e_38_41, e_38_42, e_38_43, e_38_44, e_38_46t, e_38_46f, e_38_49, e_38_50, e_38_53, e_38_54, e_38_55, e_38_56, e_38_57, e_38_60, e_38_61, e_38_62, e_38_63, e_38_64, e_38_67, e_38_68, e_38_69, e_38_70, e_38_73, e_38_76, zgf_4_0, zgf_4_1, zgf_4_2, zpf_4_0, zpf_4_1, zpf_4_2, zpf_4_3, zpf_4_4, zPa_some, zPn_some, zRK_some, zRK_none, zCk_t, zis_ob, zget_set_eq, zget_set_ne, zAld_10, zAld_11, zAst_10, zAst_11, zAlen_10, zAlen_11, zbd_t, zbd_f, zb_t, zb_f, zset_set, s_one0, s_one1, zis_so, x0, x1, x2, x3]
theorem s_new38 (h : zget M p = some (zOb 4 [.null, .null, .null, .null, .int 0])) (hs : M.2.1 = p + 1) : ∃ M', (∀ (d : Nat) (K : zK), zC (d + 1) 38 [.ref p] M K = K none M') ∧ zget M' p = some (zOb 4 [.ref (p + 1), .ref (p + 2), .ref (p + 3), .ref (p + 4), .int (zi 1)]) ∧ zget M' (p + 1) = some (zA 10 6 (fun _ => -1)) ∧ zget M' (p + 2) = some (zA 10 6 (fun _ => -1)) ∧ zget M' (p + 3) = some (zA 10 6 (fun _ => -1)) ∧ zget M' (p + 4) = some (zA 10 36 (fun _ => 0)) ∧ nF p 5 54 M M' := by
  have e : ∀ (d : Nat) (K : zK), zC (d + 1) 38 [.ref p] M K = zC (d + 1) 38 [.ref p] M K := fun _ _ => rfl
  conv at e =>
    enter [d, K, 2]
    simp (disch := (first | omega | (simp only [znew_sz, zset_sz]; omega))) only [zen_38, e_38_0, e_38_1, e_38_4, e_38_5, e_38_7, e_38_9, e_38_12, e_38_13, e_38_15, e_38_17, e_38_20, e_38_21, e_38_23, e_38_25, e_38_28, e_38_29, e_38_31, e_38_33, e_38_36, e_38_37, e_38_38, e_38_41, e_38_42, e_38_43, e_38_44, e_38_49, e_38_50, e_38_53, e_38_54, e_38_55, e_38_56, e_38_57, e_38_60, e_38_61, e_38_62, e_38_63, e_38_64, e_38_67, e_38_68, e_38_69, e_38_70, e_38_73, e_38_76, zgf_4_0, zgf_4_1, zgf_4_2, zpf_4_0, zpf_4_1, zpf_4_2, zpf_4_3, zpf_4_4, zPa_some, zPn_some, zRK_some, zRK_none, zCk_t, zis_ob, zget_set_eq, zget_set_ne, zAld_10, zAld_11, zAst_10, zAst_11, zAlen_10, zAlen_11, zbd_t, zbd_f, zb_t, zb_f, zset_set, s_one0, s_one1, zis_so, h, hs, zgn_eq, zgn_ne, znew_sz, zset_sz, tn_4, tn_6, tn_12, tn_24, tn_36, tn_64, tn_192, tn_384, tn_768]
  obtain ⟨X, hX⟩ : ∃ X, X = (zset (znew (zset (znew (zset (znew (zset (znew M 6 (zA 10 6 fun _ => 0)) p (zOb 4 [.ref (p + 1), .null, .null, .null, .int 0])) 6 (zA 10 6 fun _ => 0)) p (zOb 4 [.ref (p + 1), .ref (p + 1 + 1), .null, .null, .int 0])) 6 (zA 10 6 fun _ => 0)) p (zOb 4 [.ref (p + 1), .ref (p + 1 + 1), .ref (p + 1 + 1 + 1), .null, .int 0])) 36 (zA 10 36 fun _ => 0)) p (zOb 4 [.ref (p + 1), .ref (p + 1 + 1), .ref (p + 1 + 1 + 1), .ref (p + 1 + 1 + 1 + 1), .int (zi 1)])) := ⟨_, rfl⟩
  have x : MLo p (fun _ => 0) (fun _ => 0) (fun _ => 0) X := by
    rw [hX]
    refine ⟨?_, ?_, ?_, ?_, ?_⟩
    · simp (disch := (first | omega | (simp only [znew_sz, zset_sz]; omega))) only [zget_set_eq, zget_set_ne, zgn_eq, zgn_ne, znew_sz, zset_sz, znew_sl, zset_sl, hs, Nat.add_zero]
    · simp (disch := (first | omega | (simp only [znew_sz, zset_sz]; omega))) only [zget_set_eq, zget_set_ne, zgn_eq, zgn_ne, znew_sz, zset_sz, znew_sl, zset_sl, hs, Nat.add_zero]
    · simp (disch := (first | omega | (simp only [znew_sz, zset_sz]; omega))) only [zget_set_eq, zget_set_ne, zgn_eq, zgn_ne, znew_sz, zset_sz, znew_sl, zset_sl, hs, Nat.add_zero]
    · simp (disch := (first | omega | (simp only [znew_sz, zset_sz]; omega))) only [zget_set_eq, zget_set_ne, zgn_eq, zgn_ne, znew_sz, zset_sz, znew_sl, zset_sl, hs, Nat.add_zero]
    · simp (disch := (first | omega | (simp only [znew_sz, zset_sz]; omega))) only [zget_set_eq, zget_set_ne, zgn_eq, zgn_ne, znew_sz, zset_sz, znew_sl, zset_sl, hs, Nat.add_zero]
  obtain ⟨M', a1, a2, a3⟩ := l_38 6 0 _ _ _ X x (by omega) (by omega)
  have ux : ∀ j : Int, 0 ≤ j → j < (6 : Nat) → up 0 6 (fun _ => (-1 : Int)) (fun _ => 0) j = -1 := fun j h1 h2 => if_pos ⟨h1, by omega⟩
  refine ⟨M', fun d K => ?_, a2.1, a2.2.1.trans (congrArg some (zA_ext ux)), a2.2.2.1.trans (congrArg some (zA_ext ux)), a2.2.2.2.1.trans (congrArg some (zA_ext ux)), a2.2.2.2.2, fun a ha => ?_, ?_, ?_, ?_⟩
  · rw [e d K, ← a1 d K, hX]
  · rw [a3.1 a (by omega), hX]
    simp (disch := (first | omega | (simp only [znew_sz, zset_sz]; omega))) only [zget_set_eq, zget_set_ne, zgn_eq, zgn_ne, znew_sz, zset_sz, znew_sl, zset_sl, hs, Nat.add_zero]
  · rw [a3.2.1, hX]
    rfl
  · rw [a3.2.2.1, hX]
    simp (disch := (first | omega | (simp only [znew_sz, zset_sz]; omega))) only [zget_set_eq, zget_set_ne, zgn_eq, zgn_ne, znew_sz, zset_sz, znew_sl, zset_sl, hs, Nat.add_zero]
  · rw [a3.2.2.2, hX]
    simp (disch := (first | omega | (simp only [znew_sz, zset_sz]; omega))) only [zget_set_eq, zget_set_ne, zgn_eq, zgn_ne, znew_sz, zset_sz, znew_sl, zset_sl, hs, Nat.add_zero]
theorem s_new63 (h : zget M p = some (zOb 6 [.null, .null, .null, .null, .null])) (hs : M.2.1 = p + 1) : ∃ M', (∀ (d : Nat) (K : zK), zC (d + 8) 63 [.ref p] M K = K none M') ∧ XS1 p (dQ 1 1 1 0) (fun _ => false) (gH (dQ 1 1 1 0)) M' ∧ nF p 6 624 M M' := by
  have e : ∀ (d : Nat) (K : zK), zC (d + 8) 63 [.ref p] M K = zC (d + 8) 63 [.ref p] M K := fun _ _ => rfl
  conv at e =>
    enter [d, K, 2]
    simp (disch := (first | omega | (simp only [znew_sz, zset_sz]; omega))) only [zen_63, e_63_0, e_63_1, e_63_4, e_63_5, e_63_8, e_63_10, e_63_13, e_63_14, e_63_17, e_63_19, e_63_22, e_63_23, e_63_26, e_63_28, e_63_31, e_63_32, e_63_34, e_63_36, e_63_39, e_63_40, e_63_42, e_63_44, e_63_47, e_63_48, e_63_49, e_63_50, e_63_51, e_63_55, e_63_56, zpf_6_0, zpf_6_1, zpf_6_2, zpf_6_3, zpf_6_4, zPa_some, zPn_some, zRK_some, zRK_none, zCk_t, zis_ob, zget_set_eq, zget_set_ne, zAld_10, zAld_11, zAst_10, zAst_11, zAlen_10, zAlen_11, zbd_t, zbd_f, zb_t, zb_f, zset_set, s_one0, s_one1, zis_so, h, hs, zgn_eq, zgn_ne, znew_sz, zset_sz, tn_4, tn_6, tn_12, tn_24, tn_36, tn_64, tn_192, tn_384, tn_768]
  obtain ⟨X, hX⟩ : ∃ X, X = (zset (znew (zset (znew (zset (znew (zset (znew (zset (znew M 192 (zA 11 192 fun _ => 0)) p (zOb 6 [.ref (p + 1), .null, .null, .null, .null])) 192 (zA 11 192 fun _ => 0)) p (zOb 6 [.ref (p + 1), .ref (p + 1 + 1), .null, .null, .null])) 192 (zA 10 192 fun _ => 0)) p (zOb 6 [.ref (p + 1), .ref (p + 1 + 1), .ref (p + 1 + 1 + 1), .null, .null])) 24 (zA 11 24 fun _ => 0)) p (zOb 6 [.ref (p + 1), .ref (p + 1 + 1), .ref (p + 1 + 1 + 1), .ref (p + 1 + 1 + 1 + 1), .null])) 24 (zA 11 24 fun _ => 0)) p (zOb 6 [.ref (p + 1), .ref (p + 1 + 1), .ref (p + 1 + 1 + 1), .ref (p + 1 + 1 + 1 + 1), .ref (p + 1 + 1 + 1 + 1 + 1)])) := ⟨_, rfl⟩
  have x : XS1 p (fun _ => false) (fun _ => false) (fun _ => 0) X := by
    have g1 : zget X (p + 1) = some (zA 11 192 (fun _ => 0)) := by
      rw [hX]
      simp (disch := (first | omega | (simp only [znew_sz, zset_sz]; omega))) only [zget_set_eq, zget_set_ne, zgn_eq, zgn_ne, znew_sz, zset_sz, znew_sl, zset_sl, hs, Nat.add_zero]
    have g2 : zget X (p + 2) = some (zA 11 192 (fun _ => 0)) := by
      rw [hX]
      simp (disch := (first | omega | (simp only [znew_sz, zset_sz]; omega))) only [zget_set_eq, zget_set_ne, zgn_eq, zgn_ne, znew_sz, zset_sz, znew_sl, zset_sl, hs, Nat.add_zero]
    have g3 : zget X (p + 3) = some (zA 10 192 (fun _ => 0)) := by
      rw [hX]
      simp (disch := (first | omega | (simp only [znew_sz, zset_sz]; omega))) only [zget_set_eq, zget_set_ne, zgn_eq, zgn_ne, znew_sz, zset_sz, znew_sl, zset_sl, hs, Nat.add_zero]
    have g4 : zget X (p + 4) = some (zA 11 24 (fun _ => 0)) := by
      rw [hX]
      simp (disch := (first | omega | (simp only [znew_sz, zset_sz]; omega))) only [zget_set_eq, zget_set_ne, zgn_eq, zgn_ne, znew_sz, zset_sz, znew_sl, zset_sl, hs, Nat.add_zero]
    have g5 : zget X (p + 5) = some (zA 11 24 (fun _ => 0)) := by
      rw [hX]
      simp (disch := (first | omega | (simp only [znew_sz, zset_sz]; omega))) only [zget_set_eq, zget_set_ne, zgn_eq, zgn_ne, znew_sz, zset_sz, znew_sl, zset_sl, hs, Nat.add_zero]
    have g0 : zget X p = some (zSo (p + 1) (p + 2) (p + 3) (p + 4) (p + 5)) := by
      rw [hX]
      exact zget_set_eq
    exact ⟨g0, g1, g2, g3, ⟨fun _ => false, g4⟩, fun _ => false, g5⟩
  obtain ⟨M', a1, a2, a3⟩ := s_cutHarps x 1 1 1 0 24 (by unfold okD; omega)
  refine ⟨M', fun d K => ?_, a2, fun a ha => ?_, ?_, ?_, ?_⟩
  · rw [e d K, ← hX]
    have x0 := x.1
    simp (disch := omega) only [zen_63, e_63_0, e_63_1, e_63_4, e_63_5, e_63_8, e_63_10, e_63_13, e_63_14, e_63_17, e_63_19, e_63_22, e_63_23, e_63_26, e_63_28, e_63_31, e_63_32, e_63_34, e_63_36, e_63_39, e_63_40, e_63_42, e_63_44, e_63_47, e_63_48, e_63_49, e_63_50, e_63_51, e_63_52, e_63_55, e_63_56, zpf_6_0, zpf_6_1, zpf_6_2, zpf_6_3, zpf_6_4, zPa_some, zPn_some, zRK_some, zRK_none, zCk_t, zis_ob, zget_set_eq, zget_set_ne, zAld_10, zAld_11, zAst_10, zAst_11, zAlen_10, zAlen_11, zbd_t, zbd_f, zb_t, zb_f, zset_set, s_one0, s_one1, zis_so, x0, a1]
  · rw [a3.1 a (by omega), hX]
    simp (disch := (first | omega | (simp only [znew_sz, zset_sz]; omega))) only [zget_set_eq, zget_set_ne, zgn_eq, zgn_ne, znew_sz, zset_sz, znew_sl, zset_sl, hs, Nat.add_zero]
  · rw [a3.2.1, hX]
    rfl
  · rw [a3.2.2.1, hX]
    simp (disch := (first | omega | (simp only [znew_sz, zset_sz]; omega))) only [zget_set_eq, zget_set_ne, zgn_eq, zgn_ne, znew_sz, zset_sz, znew_sl, zset_sl, hs, Nat.add_zero]
  · rw [a3.2.2.2, hX]
    simp (disch := (first | omega | (simp only [znew_sz, zset_sz]; omega))) only [zget_set_eq, zget_set_ne, zgn_eq, zgn_ne, znew_sz, zset_sz, znew_sl, zset_sl, hs, Nat.add_zero]
end INI
