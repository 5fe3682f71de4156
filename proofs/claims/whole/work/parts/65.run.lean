/-! the run of the law -/
theorem XI_cells {b : Nat} {v : Nat → Int} {F C D : Int → Bool} {G : Int → Int} {R : Nat → Int → Int} {M M' : zM} (x : XI b v F C G R D M) (f : ∀ a, b ≤ a → a < b + 47 → zget M' a = zget M a) : XI b v F C G R D M' := by
  obtain ⟨⟨h1, h2, h3⟩, hS, h4, ⟨u, h5⟩, ⟨t1, t2, t3, t4, u2, t5⟩, ⟨r1, r2, r3⟩, ⟨m1, m2, m3, m4, m5⟩, l, e, s, o, t, p1, p2, p3, p4, p5⟩ := x
  refine ⟨⟨(f _ (by omega) (by omega)).trans h1, (f _ (by omega) (by omega)).trans h2, (f _ (by omega) (by omega)).trans h3⟩, fun k k0 k1 => ?_, (f _ (by omega) (by omega)).trans h4, ⟨u, (f _ (by omega) (by omega)).trans h5⟩, ⟨(f _ (by omega) (by omega)).trans t1, (f _ (by omega) (by omega)).trans t2, (f _ (by omega) (by omega)).trans t3, (f _ (by omega) (by omega)).trans t4, u2, (f _ (by omega) (by omega)).trans t5⟩, ⟨(f _ (by omega) (by omega)).trans r1, (f _ (by omega) (by omega)).trans r2, (f _ (by omega) (by omega)).trans r3⟩, ⟨(f _ (by omega) (by omega)).trans m1, (f _ (by omega) (by omega)).trans m2, (f _ (by omega) (by omega)).trans m3, (f _ (by omega) (by omega)).trans m4, (f _ (by omega) (by omega)).trans m5⟩, l, e, s, o, t, (f _ (by omega) (by omega)).trans p1, (f _ (by omega) (by omega)).trans p2, (f _ (by omega) (by omega)).trans p3, (f _ (by omega) (by omega)).trans p4, (f _ (by omega) (by omega)).trans p5⟩
  obtain ⟨y1, y2, y3, y4, ⟨A, y5⟩, B, y6⟩ := hS k k0 k1
  have zr : b + 22 ≤ zst b k ∧ zst b k + 6 ≤ b + 46 := by unfold zst; omega
  exact ⟨(f _ (by omega) (by omega)).trans y1, (f _ (by omega) (by omega)).trans y2, (f _ (by omega) (by omega)).trans y3, (f _ (by omega) (by omega)).trans y4, ⟨A, (f _ (by omega) (by omega)).trans y5⟩, B, (f _ (by omega) (by omega)).trans y6⟩
set_option maxHeartbeats 16000000 in
theorem law_run {b L : Nat} {xs : Nat → Int32} (hL : L ≤ 3072) (aS sz : Nat) (h1 : aS ≠ b) (h2 : aS < sz) (h3 : b < sz) : ∃ M', (∀ (d : Nat) (K : zK), Ev (d + 30) 223 0 [some (.ref b), none, none, none] [] (zMz aS b L sz xs) K = K (some (.int (zi 1))) M') ∧ M'.2.1 = sz + 66 ∧ M'.2.2.1 ≤ 30000 := by
  obtain ⟨M0, hM0⟩ : ∃ M0, M0 = zMz aS b L sz xs := ⟨_, rfl⟩
  have q1 : M0.1 = aS := by rw [hM0]; rfl
  have q2 : M0.2.1 = sz := by rw [hM0]; rfl
  have q3 : M0.2.2.1 = 0 := by rw [hM0]; rfl
  have q4 : zget M0 b = some (zA3 L xs) := by rw [hM0]; exact if_pos rfl
  have q5 : zget M0 aS = some (zA3 13 zSl) := by rw [hM0]; exact (if_neg h1).trans (if_pos rfl)
  rw [← hM0]
  obtain ⟨M1, hM1⟩ : ∃ M1, M1 = znew M0 13 (zOb 8 [.null, .null, .null, .null, .null, .null, .null, .null, .int 0, .int 0, .int 0, .int 0, .int 0]) := ⟨_, rfl⟩
  have r1 : zget M1 sz = some (zOb 8 [.null, .null, .null, .null, .null, .null, .null, .null, .int 0, .int 0, .int 0, .int 0, .int 0]) := by rw [hM1]; exact zgn_eq q2.symm
  have r2 : M1.2.1 = sz + 1 := by rw [hM1, znew_sz, q2]
  have r3 : ∀ a, a < sz → zget M1 a = zget M0 a := fun a h => by rw [hM1]; exact zgn_ne (by omega)
  have r4 : M1.2.2.1 = 13 := by rw [hM1, znew_sl, q3]
  have r5 : M1.1 = aS := by rw [hM1, znew_st, q1]
  obtain ⟨M2, e2, x2, f2, g2, s2, t2⟩ := x_new r1 r2
  obtain ⟨M3, hM3⟩ : ∃ M3, M3 = znew M2 38 (zOb 9 [.null, .null, .null, .null, .int 0, .int 0, .int 0, .int 0, .int 0, .int 0, .int 0, .int 0, .int 0, .int 0, .int 0, .int 0, .int 0, .int 0, .int 0, .null, .null, .null, .int 0, .int 0, .null, .null, .null, .null, .null, .null, .null, .int 0, .int 0, .null, .null, .null, .int 0, .null]) := ⟨_, rfl⟩
  have u1 : zget M3 (sz + 47) = some (zOb 9 [.null, .null, .null, .null, .int 0, .int 0, .int 0, .int 0, .int 0, .int 0, .int 0, .int 0, .int 0, .int 0, .int 0, .int 0, .int 0, .int 0, .int 0, .null, .null, .null, .int 0, .int 0, .null, .null, .null, .null, .null, .null, .null, .int 0, .int 0, .null, .null, .null, .int 0, .null]) := by rw [hM3]; exact zgn_eq s2.symm
  have u2 : M3.2.1 = sz + 47 + 1 := by rw [hM3, znew_sz, s2]
  have u3 : ∀ a, a < sz + 47 → zget M3 a = zget M2 a := fun a h => by rw [hM3]; exact zgn_ne (by omega)
  have u4 : M3.2.2.1 = M2.2.2.1 + 38 := by rw [hM3, znew_sl]
  have u5 : M3.1 = aS := by rw [hM3, znew_st, g2, r5]
  obtain ⟨M4, e4, m4, f4, g4, s4, t4⟩ := m_new u1 u2
  have lo : ∀ a, a < sz → zget M4 a = zget M0 a := fun a h => by rw [f4 a (by omega), u3 a (by omega), f2 a h, r3 a h]
  have b4 : zget M4 b = some (zA3 L xs) := (lo b h3).trans q4
  have a4 : M4.1 = aS := by rw [g4, u5]
  have I : LI b sz L xs M4.2.1 M4.2.2.1 v0N F0N C0N G0N R0N D0N M4 := by
    refine ⟨b4, ?_, by rw [a4]; exact h2, XI_cells x2 (fun a c1 c2 => by rw [f4 a c2, u3 a c2]), m4, RI_new, rfl, rfl⟩
    unfold SL
    rw [a4]
    exact (lo aS h2).trans q5
  obtain ⟨M', c1, c2, c3⟩ := law_loop h3 hL 600 0 _ _ _ _ _ _ M4 I (by omega) (by omega) (by omega)
  refine ⟨M', fun d K => ?_, by rw [c2, s4], by rw [c3]; omega⟩
  rw [← c1 (d + 10) K]
  simp (disch := omega) only [e_223_0, e_223_3, e_223_4, zPa_some, zPn_some, zRK_some, zRK_none, zCk_t, zAld_sc, q2]
  rw [← hM1, e2 (d + 20)]
  simp (disch := omega) only [e_223_7, e_223_8, e_223_11, e_223_12, zPa_some, zPn_some, zRK_some, zRK_none, zCk_t, zAld_sc, s2]
  rw [← hM3, e4 (d + 20)]
  simp (disch := omega) only [e_223_15, e_223_16, e_223_17, e_223_18, e_223_19, e_223_20, e_223_21, e_223_23, zPa_some, zPn_some, zRK_some, zRK_none, zCk_t, zAld_sc, b4, zAlen_13]
