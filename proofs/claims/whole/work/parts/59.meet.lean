/-! the two ways to number the sharings -/
def hXs (H : Int) (u : Int → Int) : Nat → Int
  | 0 => 0
  | k + 1 => hXs H u k * H + u k
def hMs (D : Int → Bool) (H : Int) (u : Int → Int) : Nat → Int
  | 0 => 0
  | k + 1 => if D k = true then hMs D H u k * H + u k else hMs D H u k
def cMs (D : Int → Bool) : Nat → Nat
  | 0 => 0
  | k + 1 => if D k = true then cMs D k + 1 else cMs D k
def okU (H : Int) (u : Int → Int) : Prop := ∀ j, 0 ≤ j → j < 6 → 0 ≤ u j ∧ u j < H
section NUM
variable {H : Int} {D : Int → Bool} {u w : Int → Int}
theorem dm_div {x y : Int} (hH : 1 ≤ H) (h : 0 ≤ y ∧ y < H) : (x * H + y) / H = x ∧ (x * H + y) % H = y := by
  constructor
  · rw [Int.add_comm, Int.add_mul_ediv_right _ _ (by omega), Int.ediv_eq_zero_of_lt h.1 h.2, Int.zero_add]
  · rw [Int.add_comm, Int.add_mul_emod_self_right, Int.emod_eq_of_lt h.1 h.2]
theorem rq_hX (hH : 1 ≤ H) (ok : okU H u) : ∀ (n k : Nat), n + k = 6 → rq H n (hXs H u 6) = hXs H u k := by
  intro n
  induction n with
  | zero =>
    intro k h
    obtain rfl : k = 6 := (by omega)
    rfl
  | succ n ih =>
    intro k h
    show rq H n (hXs H u 6) / H = hXs H u k
    rw [ih (k + 1) (by omega)]
    exact (dm_div hH (ok k (by omega) (by omega))).1
theorem dg_hX (hH : 1 ≤ H) (ok : okU H u) {j : Int} (h : 0 ≤ j ∧ j < 6) : dgS H (hXs H u 6) j = u j := by
  unfold dgS
  rw [rq_hX hH ok (5 - j).toNat (j.toNat + 1) (by omega)]
  have e : ((j.toNat : Nat) : Int) = j := Int.toNat_of_nonneg h.1
  have := (dm_div (x := hXs H u j.toNat) hH (ok j.toNat (by omega) (by omega))).2
  rw [e] at this
  show (hXs H u j.toNat * H + u j.toNat) % H = u j
  rw [e]
  exact this
theorem hX_dg (hH : 1 ≤ H ∧ H ≤ 3) {s : Int} (hs : 0 ≤ s ∧ s < pH H) : hXs H (dgS H s) 6 = s := by
  have base : rq H 6 s = 0 := by
    have q : H = 1 ∨ H = 2 ∨ H = 3 := by omega
    rcases q with rfl | rfl | rfl
    · have p : pH 1 = 1 := by decide
      rw [p] at hs
      simp only [rq]
      omega
    · have p : pH 2 = 64 := by decide
      rw [p] at hs
      simp only [rq]
      omega
    · have p : pH 3 = 729 := by decide
      rw [p] at hs
      simp only [rq]
      omega
  have key : ∀ (k n : Nat), k + n = 6 → hXs H (dgS H s) k = rq H n s := by
    intro k
    induction k with
    | zero =>
      intro n h
      obtain rfl : n = 6 := (by omega)
      exact base.symm
    | succ k ih =>
      intro n h
      show hXs H (dgS H s) k * H + dgS H s k = rq H n s
      rw [ih (n + 1) (by omega)]
      have e : dgS H s k = rq H n s % H := by
        unfold dgS
        rw [show (5 - (k : Int)).toNat = n by omega]
      rw [e]
      show rq H n s / H * H + rq H n s % H = rq H n s
      rw [Int.mul_comm]
      exact Int.mul_ediv_add_emod _ _
  exact key 6 0 (by omega)
theorem hX_rng (hH : 1 ≤ H ∧ H ≤ 3) (ok : okU H u) : 0 ≤ hXs H u 6 ∧ hXs H u 6 < pH H := by
  have u0 := ok 0 (by omega) (by omega)
  have u1 := ok 1 (by omega) (by omega)
  have u2 := ok 2 (by omega) (by omega)
  have u3 := ok 3 (by omega) (by omega)
  have u4 := ok 4 (by omega) (by omega)
  have u5 := ok 5 (by omega) (by omega)
  have e : hXs H u 6 = ((((((0 * H + u 0) * H + u 1) * H + u 2) * H + u 3) * H + u 4) * H + u 5) := rfl
  rw [e]
  have q : H = 1 ∨ H = 2 ∨ H = 3 := by omega
  rcases q with rfl | rfl | rfl
  · have p : pH 1 = 1 := by decide
    rw [p]; omega
  · have p : pH 2 = 64 := by decide
    rw [p]; omega
  · have p : pH 3 = 729 := by decide
    rw [p]; omega
theorem mq_hM (hH : 1 ≤ H) (ok : okU H u) : ∀ (n k : Nat), n + k = 6 → mq D H n (hMs D H u 6) = hMs D H u k := by
  intro n
  induction n with
  | zero =>
    intro k h
    obtain rfl : k = 6 := (by omega)
    rfl
  | succ n ih =>
    intro k h
    rw [mq_s, ih (k + 1) (by omega), show (5 : Int) - (n : Nat) = (k : Nat) by omega]
    cases q : D (k : Int) with
    | true =>
      rw [if_pos rfl]
      have e : hMs D H u (k + 1) = hMs D H u k * H + u k := if_pos q
      rw [e]
      exact (dm_div hH (ok k (by omega) (by omega))).1
    | false =>
      rw [if_neg (by decide)]
      exact if_neg (by rw [q]; decide)
theorem wh_hM (hH : 1 ≤ H) (ok : okU H u) {j : Int} (h : 0 ≤ j ∧ j < 6) (hd : D j = true) : whM D H (hMs D H u 6) j = u j := by
  unfold whM
  rw [mq_hM hH ok (5 - j).toNat (j.toNat + 1) (by omega)]
  have e : ((j.toNat : Nat) : Int) = j := Int.toNat_of_nonneg h.1
  have e2 : hMs D H u (j.toNat + 1) = hMs D H u j.toNat * H + u j := by
    have : hMs D H u (j.toNat + 1) = if D (j.toNat : Int) = true then hMs D H u j.toNat * H + u (j.toNat : Int) else hMs D H u j.toNat := rfl
    rw [this, e, if_pos hd]
  rw [e2]
  exact (dm_div hH (ok j h.1 h.2)).2
theorem pN_s {n : Nat} : pN H (n + 1) = pN H n * H := by
  unfold pN
  rw [zfor_app]
  rfl
theorem nDue_cM : nDue D = (cMs D 6 : Nat) := by
  have e : nDue D = ((((((0 + zb (D 0)) + zb (D 1)) + zb (D 2)) + zb (D 3)) + zb (D 4)) + zb (D 5)) := rfl
  rw [e]
  have s : ∀ k : Nat, (cMs D (k + 1) : Int) = cMs D k + zb (D k) := fun k => by
    have : cMs D (k + 1) = if D k = true then cMs D k + 1 else cMs D k := rfl
    rw [this]
    cases D (k : Int) with
    | true => rw [if_pos rfl]; rfl
    | false => rw [if_neg (by decide)]; exact (Int.add_zero _).symm
  rw [s 5, s 4, s 3, s 2, s 1, s 0]
  rfl
theorem mq_lt (hH : 1 ≤ H) {t : Int} (ht : t < pN H (cMs D 6)) : ∀ (n k : Nat), n + k = 6 → mq D H n t < pN H (cMs D k) := by
  intro n
  induction n with
  | zero =>
    intro k h
    obtain rfl : k = 6 := (by omega)
    exact ht
  | succ n ih =>
    intro k h
    have p := ih (k + 1) (by omega)
    rw [mq_s, show (5 : Int) - (n : Nat) = (k : Nat) by omega]
    have e : cMs D (k + 1) = if D k = true then cMs D k + 1 else cMs D k := rfl
    cases q : D (k : Int) with
    | true =>
      rw [q, if_pos rfl] at e
      rw [if_pos rfl]
      rw [e, pN_s] at p
      exact Int.ediv_lt_of_lt_mul (by omega) p
    | false =>
      rw [q, if_neg (by decide)] at e
      rw [if_neg (by decide)]
      rw [e] at p
      exact p
theorem hM_wh (hH : 1 ≤ H) {t : Int} (h0 : 0 ≤ t) (ht : t < pN H (cMs D 6)) : hMs D H (whM D H t) 6 = t := by
  have base : mq D H 6 t = 0 := by
    have p := mq_lt (D := D) hH ht 6 0 (by omega)
    have r := (mq_rng (D := D) hH 6 t h0).1
    have : pN H (cMs D 0) = 1 := rfl
    omega
  have key : ∀ (k n : Nat), k + n = 6 → hMs D H (whM D H t) k = mq D H n t := by
    intro k
    induction k with
    | zero =>
      intro n h
      obtain rfl : n = 6 := (by omega)
      exact base.symm
    | succ k ih =>
      intro n h
      have i1 := ih (n + 1) (by omega)
      rw [mq_s, show (5 : Int) - (n : Nat) = (k : Nat) by omega] at i1
      have e : hMs D H (whM D H t) (k + 1) = if D k = true then hMs D H (whM D H t) k * H + whM D H t k else hMs D H (whM D H t) k := rfl
      rw [e]
      cases q : D (k : Int) with
      | true =>
        rw [q, if_pos rfl] at i1
        rw [if_pos rfl, i1]
        have e2 : whM D H t k = mq D H n t % H := by
          unfold whM
          rw [show (5 - (k : Int)).toNat = n by omega]
        rw [e2, Int.mul_comm]
        exact Int.mul_ediv_add_emod _ _
      | false =>
        rw [q, if_neg (by decide)] at i1
        rw [if_neg (by decide)]
        exact i1
  exact key 6 0 (by omega)
theorem hM_rng (hH : 1 ≤ H) (ok : okU H u) : ∀ k : Nat, k ≤ 6 → 0 ≤ hMs D H u k ∧ hMs D H u k + 1 ≤ pN H (cMs D k) := by
  intro k
  induction k with
  | zero => intro _; exact ⟨Int.le_refl _, Int.le_refl _⟩
  | succ k ih =>
    intro h
    obtain ⟨a1, a2⟩ := ih (by omega)
    have uk := ok k (by omega) (by omega)
    have e : hMs D H u (k + 1) = if D k = true then hMs D H u k * H + u k else hMs D H u k := rfl
    have e2 : cMs D (k + 1) = if D k = true then cMs D k + 1 else cMs D k := rfl
    rw [e, e2]
    cases q : D (k : Int) with
    | true =>
      rw [if_pos rfl, if_pos rfl, pN_s]
      have m1 : (hMs D H u k + 1) * H ≤ pN H (cMs D k) * H := Int.mul_le_mul_of_nonneg_right a2 (by omega)
      have m2 : (hMs D H u k + 1) * H = hMs D H u k * H + H := by rw [Int.add_mul, Int.one_mul]
      have m3 : 0 ≤ hMs D H u k * H := Int.mul_nonneg a1 (by omega)
      omega
    | false =>
      rw [if_neg (by decide), if_neg (by decide)]
      exact ⟨a1, a2⟩
theorem h_iso (hH : 1 ≤ H ∧ H ≤ 3) (o1 : okU H u) (o2 : okU H w) (hz : ∀ j, 0 ≤ j → j < 6 → D j = false → u j = w j) : ∀ k : Nat, k ≤ 6 → (hXs H u k < hXs H w k ↔ hMs D H u k < hMs D H w k) ∧ (hXs H u k = hXs H w k ↔ hMs D H u k = hMs D H w k) := by
  intro k
  induction k with
  | zero => intro _; exact ⟨Iff.rfl, Iff.rfl⟩
  | succ k ih =>
    intro h
    obtain ⟨a1, a2⟩ := ih (by omega)
    have uk := o1 k (by omega) (by omega)
    have wk := o2 k (by omega) (by omega)
    have e1 : hMs D H u (k + 1) = if D k = true then hMs D H u k * H + u k else hMs D H u k := rfl
    have e2 : hMs D H w (k + 1) = if D k = true then hMs D H w k * H + w k else hMs D H w k := rfl
    have e3 : hXs H u (k + 1) = hXs H u k * H + u k := rfl
    have e4 : hXs H w (k + 1) = hXs H w k * H + w k := rfl
    rw [e1, e2, e3, e4]
    cases q : D (k : Int) with
    | true =>
      rw [if_pos rfl, if_pos rfl]
      have c : H = 1 ∨ H = 2 ∨ H = 3 := by omega
      rcases c with rfl | rfl | rfl <;> constructor <;> omega
    | false =>
      rw [if_neg (by decide), if_neg (by decide)]
      have hz' := hz k (by omega) (by omega) q
      have c : H = 1 ∨ H = 2 ∨ H = 3 := by omega
      rcases c with rfl | rfl | rfl <;> constructor <;> omega
end NUM
section MEET
variable {R : Nat → Int → Int} {D : Int → Bool} {e : Int → Int} {H : Int}
def zrD (D : Int → Bool) (u : Int → Int) : Int → Int := fun j => if D j = true then u j else 0
theorem ofS_soM {u : Int → Int} {o : Int} : ofS (stP D) u o = soM D u o := stP_congr (fun j h1 h2 => by rw [bt_stP ⟨h1, h2⟩])
theorem DY_congrU {so : Int → Int} {u w : Int → Int} (h : ∀ j, 0 ≤ j → j < 6 → D j = true → u j = w j) : DY so (stP D) u = DY so (stP D) w := by
  unfold DY
  rw [ofS_soM, ofS_soM, ofS_soM, ofS_soM, ofS_soM, ofS_soM, soM_congr h, soM_congr h, soM_congr h]
theorem soM_none {u : Int → Int} {o : Int} (h : ∀ j, 0 ≤ j → j < 6 → D j = true → u j ≠ o) : soM D u o = 0 := by
  have r := stP_rng (fun j => D j && decide (u j = o))
  refine bt_ext ⟨r.1, r.2, by omega, by omega⟩ (fun m h1 h2 => ?_)
  rw [bt_0]
  unfold soM
  rw [bt_stP ⟨h1, h2⟩]
  cases q : D m with
  | false => rfl
  | true => rw [decide_eq_false (h m h1 h2 q)]; rfl
theorem DY_two (rm : RM R D) (hk : HKe R (stP D) e 64) {u : Int → Int} : (-1 ≤ DY (soS e) (stP D) u) ∧ (DY (soS e) (stP D) u ≤ 30 ∨ DY (soS e) (stP D) u = 1000) := by
  have r := fun o => soS_rng rm hk (stP_rng D) (S := soM D u o) (stP_rng _) sub_soM
  have g := fun o => soS_ge rm hk (S := soM D u o) (stP_rng _)
  have r0 := r 0
  have r1 := r 1
  have r2 := r 2
  have g0 := g 0
  have g1 := g 1
  have g2 := g 2
  unfold DY
  rw [ofS_soM, ofS_soM, ofS_soM]
  omega
theorem dy_DY (rm : RM R D) (hk : HKe R (stP D) e 64) (hH : 1 ≤ H ∧ H ≤ 3) {u : Int → Int} (ok : ∀ j, 0 ≤ j → j < 6 → D j = true → 0 ≤ u j ∧ u j < H) : zfor (fun h s => max s (cvS (soS e (soM D u h)))) H.toNat 0 (-1) = cvS (DY (soS e) (stP D) u) := by
  have r := fun o => soS_rng rm hk (stP_rng D) (S := soM D u o) (stP_rng _) sub_soM
  have g := fun o => soS_ge rm hk (S := soM D u o) (stP_rng _)
  have r0 := r 0
  have r1 := r 1
  have r2 := r 2
  have g0 := g 0
  have g1 := g 1
  have g2 := g 2
  have n0 : soS e 0 = -1 := by unfold soS; rw [if_pos rfl]
  unfold DY
  rw [ofS_soM, ofS_soM, ofS_soM]
  have q : H = 1 ∨ H = 2 ∨ H = 3 := by omega
  rcases q with rfl | rfl | rfl
  · have e1 := soM_none (D := D) (u := u) (o := 1) (fun j a b c => by have := ok j a b c; omega)
    have e2 := soM_none (D := D) (u := u) (o := 2) (fun j a b c => by have := ok j a b c; omega)
    rw [e1, e2, n0]
    show max (-1) (cvS (soS e (soM D u 0))) = _
    unfold cvS
    split <;> split <;> omega
  · have e2 := soM_none (D := D) (u := u) (o := 2) (fun j a b c => by have := ok j a b c; omega)
    rw [e2, n0]
    show max (max (-1) (cvS (soS e (soM D u 0)))) (cvS (soS e (soM D u 1))) = _
    unfold cvS
    repeat' split
    all_goals omega
  · show max (max (max (-1) (cvS (soS e (soM D u 0)))) (cvS (soS e (soM D u 1)))) (cvS (soS e (soM D u 2))) = _
    unfold cvS
    repeat' split
    all_goals omega
/-- the same plan -/
theorem plan_meet (rm : RM R D) (hk : HKe R (stP D) e 64) (hH : 1 ≤ H ∧ H ≤ 3) (B Q : Int × Int) (hB : B = zfor (fbS (fun s => DY (soS e) (stP D) (dgS H s))) (pH H).toNat 0 (-1, 1000)) (hQ : Q = zfor (fbS (dyM D H e)) (pN H (nDue D).toNat).toNat 0 (-1, 99)) : (B.1 = -1 ↔ Q.1 = -1) ∧ (B.1 ≠ -1 → Q.2 = DY (soS e) (stP D) (dgS H B.1) ∧ ∀ j, 0 ≤ j → j < 6 → D j = true → dgS H B.1 j = whM D H Q.1 j) := by
  have sB := fbS_spec (dy := fun s => DY (soS e) (stP D) (dgS H s)) (N := (pH H).toNat) (T := 1000)
  have sQ := fbS_spec (dy := dyM D H e) (N := (pN H (nDue D).toNat).toNat) (T := 99)
  rw [← hB] at sB
  rw [← hQ] at sQ
  have pr := pH_rng hH
  have nc : (nDue D).toNat = cMs D 6 := by rw [nDue_cM]; exact Int.toNat_natCast _
  rw [nc] at sQ
  have dM : ∀ t, dyM D H e t = cvS (DY (soS e) (stP D) (whM D H t)) := fun t => dy_DY rm hk hH (fun j _ _ _ => whM_rng (by omega))
  have okz : ∀ u : Int → Int, (∀ j, 0 ≤ u j ∧ u j < H) → okU H (zrD D u) := fun u h j h1 h2 => by
    unfold zrD
    split
    · exact h j
    · omega
  -- from a number of the reference to one of the class
  have toX : ∀ t, ∃ s, 0 ≤ s ∧ s < pH H ∧ s = hXs H (zrD D (whM D H t)) 6 ∧ DY (soS e) (stP D) (dgS H s) = DY (soS e) (stP D) (whM D H t) := fun t => by
    have ok := okz (whM D H t) (fun j => whM_rng (by omega))
    have r := hX_rng hH ok
    refine ⟨_, r.1, r.2, rfl, DY_congrU (fun j h1 h2 h3 => ?_)⟩
    rw [dg_hX (by omega) ok ⟨h1, h2⟩]
    exact if_pos h3
  have toM : ∀ s, ∃ t, 0 ≤ t ∧ t < pN H (cMs D 6) ∧ t = hMs D H (zrD D (dgS H s)) 6 ∧ (∀ j, 0 ≤ j → j < 6 → D j = true → whM D H t j = dgS H s j) ∧ DY (soS e) (stP D) (whM D H t) = DY (soS e) (stP D) (dgS H s) := fun s => by
    have ok := okz (dgS H s) (fun j => dgS_rng (by omega))
    have r := hM_rng (D := D) (by omega) ok 6 (by omega)
    have eq : ∀ j, 0 ≤ j → j < 6 → D j = true → whM D H (hMs D H (zrD D (dgS H s)) 6) j = dgS H s j := fun j h1 h2 h3 => by
      rw [wh_hM (by omega) ok ⟨h1, h2⟩ h3]
      exact if_pos h3
    exact ⟨_, r.1, by omega, rfl, eq, DY_congrU eq⟩
  have cv : ∀ u : Int → Int, cvS (DY (soS e) (stP D) u) < 99 → DY (soS e) (stP D) u < 1000 ∧ cvS (DY (soS e) (stP D) u) = DY (soS e) (stP D) u := fun u h => by
    have t := DY_two (e := e) rm hk (u := u)
    unfold cvS at h ⊢
    by_cases c : DY (soS e) (stP D) u = 1000
    · rw [if_pos c] at h; omega
    · rw [if_neg c]; omega
  have cv2 : ∀ u : Int → Int, DY (soS e) (stP D) u < 1000 → cvS (DY (soS e) (stP D) u) = DY (soS e) (stP D) u ∧ cvS (DY (soS e) (stP D) u) < 99 := fun u h => by
    have t := DY_two (e := e) rm hk (u := u)
    unfold cvS
    rw [if_neg (by omega)]
    omega
  constructor
  · constructor
    · intro b
      rcases sQ with ⟨q1, -⟩ | ⟨q1, q2, q3, -⟩
      · exact q1
      · exfalso
        rw [q2, dM] at q3
        obtain ⟨s, s1, s2, s3, s4⟩ := toX Q.1
        have c1 := (cv _ q3).1
        rcases sB with ⟨b1, b2, b3⟩ | ⟨b1, -⟩
        · have := b3 s s1 (by omega)
          omega
        · omega
    · intro q
      rcases sB with ⟨b1, -⟩ | ⟨b1, b2, b3, -⟩
      · exact b1
      · exfalso
        obtain ⟨t, t1, t2, t3, t4, t5⟩ := toM B.1
        have b3' : DY (soS e) (stP D) (dgS H B.1) < 1000 := by omega
        have c1 := (cv2 _ b3').2
        rcases sQ with ⟨q1, q2, q3⟩ | ⟨q1, -⟩
        · have := q3 t t1 (by omega)
          rw [dM, t5] at this
          omega
        · omega
  · intro b
    rcases sB with ⟨b1, -⟩ | ⟨b1, b2, b3, b4, b5⟩
    · exact absurd b1 b
    · have b3' : DY (soS e) (stP D) (dgS H B.1) < 1000 := by omega
      obtain ⟨t, t1, t2, t3, t4, t5⟩ := toM B.1
      have c1 := cv2 _ b3'
      rcases sQ with ⟨q1, q2, q3⟩ | ⟨q1, q2, q3, q4, q5⟩
      · exfalso
        have := q3 t t1 (by omega)
        rw [dM, t5] at this
        omega
      · -- the two least days are the same
        have q3' := q3
        rw [q2, dM] at q3'
        have c2 := cv _ q3'
        obtain ⟨s, s1, s2, s3, s4⟩ := toX Q.1
        have m1 := b4 s s1 (by omega)
        have m2 := q4 t t1 (by omega)
        rw [dM, t5] at m2
        have q2' := q2
        rw [dM] at q2'
        have same : DY (soS e) (stP D) (whM D H Q.1) = DY (soS e) (stP D) (dgS H B.1) := by omega
        -- B.1 is the number of its own digits, zero where no mill is due
        have okB := okz (dgS H B.1) (fun j => dgS_rng (by omega))
        have okQ := okz (whM D H Q.1) (fun j => whM_rng (by omega))
        have rB := hX_rng hH okB
        have dB : DY (soS e) (stP D) (dgS H (hXs H (zrD D (dgS H B.1)) 6)) = DY (soS e) (stP D) (dgS H B.1) := DY_congrU (fun j h1 h2 h3 => by
          rw [dg_hX (by omega) okB ⟨h1, h2⟩]
          exact if_pos h3)
        have l1 : ¬ s < B.1 := fun z => by have := b5 s s1 z; omega
        have l2 : ¬ t < Q.1 := fun z => by
          have := q5 t t1 z
          rw [dM, t5] at this
          omega
        have l3 : ¬ hXs H (zrD D (dgS H B.1)) 6 < B.1 := fun z => by have := b5 _ rB.1 z; omega
        have eB := hX_dg hH (s := B.1) ⟨b1.1, by omega⟩
        have okF : okU H (dgS H B.1) := fun j _ _ => dgS_rng (by omega)
        have le : hXs H (zrD D (dgS H B.1)) 6 ≤ hXs H (dgS H B.1) 6 := by
          have e1 : ∀ u : Int → Int, hXs H u 6 = ((((((0 * H + u 0) * H + u 1) * H + u 2) * H + u 3) * H + u 4) * H + u 5) := fun _ => rfl
          have d := fun j => dgS_rng (H := H) (s := B.1) (m := j) (by omega)
          have z : ∀ j, zrD D (dgS H B.1) j ≤ dgS H B.1 j := fun j => by
            have := d j
            unfold zrD
            split <;> omega
          have z0 := z 0
          have z1 := z 1
          have z2 := z 2
          have z3 := z 3
          have z4 := z 4
          have z5 := z 5
          rw [e1, e1]
          have c : H = 1 ∨ H = 2 ∨ H = 3 := by omega
          rcases c with rfl | rfl | rfl <;> omega
        have eB2 : hXs H (zrD D (dgS H B.1)) 6 = B.1 := by omega
        have eQ := hM_wh (D := D) (H := H) (by omega) (t := Q.1) q1.1 (by omega)
        have eQ2 : hMs D H (zrD D (whM D H Q.1)) 6 = hMs D H (whM D H Q.1) 6 := by
          have : ∀ k : Nat, hMs D H (zrD D (whM D H Q.1)) k = hMs D H (whM D H Q.1) k := by
            intro k
            induction k with
            | zero => rfl
            | succ k ih =>
              have e1 : hMs D H (zrD D (whM D H Q.1)) (k + 1) = if D k = true then hMs D H (zrD D (whM D H Q.1)) k * H + zrD D (whM D H Q.1) k else hMs D H (zrD D (whM D H Q.1)) k := rfl
              have e2 : hMs D H (whM D H Q.1) (k + 1) = if D k = true then hMs D H (whM D H Q.1) k * H + whM D H Q.1 k else hMs D H (whM D H Q.1) k := rfl
              rw [e1, e2, ih]
              cases c : D (k : Int) with
              | true =>
                rw [if_pos rfl, if_pos rfl]
                have : zrD D (whM D H Q.1) k = whM D H Q.1 k := if_pos c
                rw [this]
              | false => rw [if_neg (by decide), if_neg (by decide)]
          exact this 6
        have iso := h_iso (D := D) hH okB okQ (fun j h1 h2 h3 => by unfold zrD; rw [h3, if_neg (by decide), if_neg (by decide)]) 6 (by omega)
        have eqM : hMs D H (zrD D (dgS H B.1)) 6 = hMs D H (zrD D (whM D H Q.1)) 6 := by
          have i1 := iso.1
          have i2 := iso.2
          by_cases c : hXs H (zrD D (dgS H B.1)) 6 = hXs H (zrD D (whM D H Q.1)) 6
          · exact i2.mp c
          · have : hXs H (zrD D (dgS H B.1)) 6 < hXs H (zrD D (whM D H Q.1)) 6 := by omega
            have := i1.mp this
            omega
        have tQ : t = Q.1 := by omega
        refine ⟨by omega, fun j h1 h2 h3 => ?_⟩
        rw [← tQ, t4 j h1 h2 h3]
end MEET
