/-! orders of mills, and the table over sets -/
def skS (R : Nat → Int → Int) (p d m : Int) : Int := if p = -1 then R 11 m else max (R 11 m) (d + R 14 (p * 6 + m) + 1)
def enS (R : Nat → Int → Int) (p d m : Int) : Int := skS R p d m + R 13 m - 1
def stF (R : Nat → Int → Int) (q : Int × Int) (m : Int) : Int × Int := if q.2 = 99 then (m, 99) else if R 12 m < enS R q.1 q.2 m then (m, 99) else (m, enS R q.1 q.2 m)
def laS (R : Nat → Int → Int) (L : List Int) : Int × Int := L.foldl (stF R) (-1, -1)
def la (R : Nat → Int → Int) (L : List Int) : Int := (laS R L).2
def PO : List Int → Int → Prop
  | [], S => S = 0
  | m :: L, S => (0 ≤ m ∧ m < 6) ∧ bt S m = true ∧ PO L (rs S m)
theorem laS_snoc {R : Nat → Int → Int} {L : List Int} {m : Int} : laS R (L ++ [m]) = stF R (laS R L) m := by
  unfold laS
  rw [List.foldl_append]
  rfl
theorem stF_1 {R : Nat → Int → Int} {q : Int × Int} {m : Int} : (stF R q m).1 = m := by
  unfold stF
  split
  · rfl
  · split <;> rfl
theorem rs_comm {S x m : Int} (h : 0 ≤ S ∧ S < 64 ∧ 0 ≤ x ∧ x < 6 ∧ 0 ≤ m ∧ m < 6) : rs (rs S x) m = rs (rs S m) x := by
  have r1 := rs_rng (S := S) (m := x) (by omega)
  have r2 := rs_rng (S := S) (m := m) (by omega)
  have r3 := rs_rng (S := rs S x) (m := m) (by omega)
  have r4 := rs_rng (S := rs S m) (m := x) (by omega)
  refine bt_ext (by omega) (fun j h1 h2 => ?_)
  rw [bt_rs (by omega), bt_rs (by omega), bt_rs (by omega), bt_rs (by omega), Bool.and_assoc, Bool.and_assoc, Bool.and_comm (!decide (j = x))]
theorem PO_snoc : ∀ (L : List Int) (S m : Int), (0 ≤ S ∧ S < 64) → (PO (L ++ [m]) S ↔ (0 ≤ m ∧ m < 6) ∧ bt S m = true ∧ PO L (rs S m)) := by
  intro L
  induction L with
  | nil => intro S m h; exact Iff.rfl
  | cons x L ih =>
    intro S m h
    show ((0 ≤ x ∧ x < 6) ∧ bt S x = true ∧ PO (L ++ [m]) (rs S x)) ↔ (0 ≤ m ∧ m < 6) ∧ bt S m = true ∧ ((0 ≤ x ∧ x < 6) ∧ bt (rs S m) x = true ∧ PO L (rs (rs S m) x))
    constructor
    · rintro ⟨hx, b1, p⟩
      have r1 := rs_rng (S := S) (m := x) (by omega)
      obtain ⟨hm, b2, p2⟩ := (ih (rs S x) m (by omega)).mp p
      rw [bt_rs (by omega), Bool.and_eq_true_iff] at b2
      refine ⟨hm, b2.1, hx, ?_, ?_⟩
      · rw [bt_rs (by omega), b1, Bool.true_and]
        have := b2.2
        rw [Bool.not_eq_true', decide_eq_false_iff_not] at this ⊢
        exact fun z => this z.symm
      · rw [rs_comm (by omega)]
        exact p2
    · rintro ⟨hm, b1, hx, b2, p⟩
      have r1 := rs_rng (S := S) (m := x) (by omega)
      rw [bt_rs (by omega), Bool.and_eq_true_iff] at b2
      refine ⟨hx, b2.1, (ih (rs S x) m (by omega)).mpr ⟨hm, ?_, ?_⟩⟩
      · rw [bt_rs (by omega), b1, Bool.true_and]
        have := b2.2
        rw [Bool.not_eq_true', decide_eq_false_iff_not] at this ⊢
        exact fun z => this z.symm
      · rw [rs_comm (by omega)]
        exact p
/-- least of what C lets through -/
def zmn (C : Int → Bool) (g : Int → Int) (n : Nat) (i s : Int) : Int := zfor (fun b s => if C b = true then min s (g b) else s) n i s
theorem zmn_le {C : Int → Bool} {g : Int → Int} {n : Nat} {i s z : Int} : z ≤ zmn C g n i s ↔ z ≤ s ∧ ∀ j, i ≤ j → j < i + n → (C j = true → z ≤ g j) := by
  refine zfor_pred (Q := fun s => z ≤ s) n i s (fun j t _ _ => ?_)
  cases C j with
  | true => rw [if_pos rfl]; exact ⟨fun q => ⟨by omega, fun _ => by omega⟩, fun q => by have := q.2 rfl; omega⟩
  | false => rw [if_neg (by decide)]; exact ⟨fun q => ⟨q, fun z => by cases z⟩, fun q => q.1⟩
theorem zmn_att {C : Int → Bool} {g : Int → Int} : ∀ (n : Nat) (i s : Int), zmn C g n i s = s ∨ ∃ j, i ≤ j ∧ j < i + n ∧ C j = true ∧ zmn C g n i s = g j := by
  intro n
  induction n with
  | zero => intro i s; exact Or.inl rfl
  | succ n ih =>
    intro i s
    have e : zmn C g (n + 1) i s = zmn C g n (i + 1) (if C i = true then min s (g i) else s) := rfl
    rw [e]
    rcases ih (i + 1) (if C i = true then min s (g i) else s) with q | ⟨j, h1, h2, h3, h4⟩
    · rw [q]
      cases c : C i with
      | true =>
        rw [if_pos rfl]
        by_cases z : s ≤ g i
        · exact Or.inl (by omega)
        · exact Or.inr ⟨i, by omega, by omega, c, by omega⟩
      | false => rw [if_neg (by decide)]; exact Or.inl rfl
    · exact Or.inr ⟨j, by omega, by omega, h3, h4⟩
def eeT (R : Nat → Int → Int) (e : Int → Int) (S m : Int) : Int := zmn (fun b => bt (rs S m) b && decide (e (rs S m * 6 + b) < 1000)) (fun b => max (R 11 m) (e (rs S m * 6 + b) + R 14 (b * 6 + m) + 1)) 6 0 (if rs S m = 0 then R 11 m else 1000)
def eeS (R : Nat → Int → Int) (e : Int → Int) (S m : Int) : Int := if eeT R e S m < 1000 ∧ eeT R e S m + R 13 m - 1 ≤ R 12 m then eeT R e S m + R 13 m - 1 else 1000
def HKe (R : Nat → Int → Int) (W : Int) (e : Int → Int) (n : Int) : Prop := ∀ S m, 1 ≤ S → S < n → 0 ≤ m → m < 6 → e (S * 6 + m) = if bt (zand S W) m = true then eeS R e S m else 1000
def sub (S W : Int) : Prop := ∀ m, 0 ≤ m → m < 6 → bt S m = true → bt W m = true
theorem sub_rs {S W m : Int} (h : sub S W) (r : 0 ≤ S ∧ S < 64 ∧ 0 ≤ m ∧ m < 6) : sub (rs S m) W := fun j h1 h2 h3 => by
  rw [bt_rs (by omega), Bool.and_eq_true_iff] at h3
  exact h j h1 h2 h3.1
theorem bt_pos {S m : Int} (r : 0 ≤ S ∧ S < 64 ∧ 0 ≤ m ∧ m < 6) (h : bt S m = true) : 1 ≤ S := by
  by_cases c : S = 0
  · rw [c, bt_0] at h; cases h
  · omega
section HK
variable {R : Nat → Int → Int} {D : Int → Bool} {W : Int} {e : Int → Int}
theorem HKe_S (hk : HKe R W e 64) {S m : Int} (r : 0 ≤ S ∧ S < 64 ∧ 0 ≤ m ∧ m < 6 ∧ 0 ≤ W ∧ W < 64) (h : sub S W) (b : bt S m = true) : e (S * 6 + m) = eeS R e S m := by
  have p := bt_pos (by omega) b
  rw [hk S m p (by omega) (by omega) (by omega), bt_and (by omega), b, h m (by omega) (by omega) b]
  rfl
theorem eeS_rng (rm : RM R D) {S m : Int} (h : 0 ≤ m ∧ m < 6) : eeS R e S m = 1000 ∨ eeS R e S m ≤ 30 := by
  have r := rm.1 m h.1 h.2
  unfold eeS
  split
  · right; omega
  · left; rfl
theorem hk_le (rm : RM R D) (hk : HKe R W e 64) (hW : 0 ≤ W ∧ W < 64) : ∀ (n : Nat) (L : List Int) (S m : Int), L.length = n → (0 ≤ S ∧ S < 64) → sub S W → PO (L ++ [m]) S → la R (L ++ [m]) ≠ 99 → e (S * 6 + m) ≤ la R (L ++ [m]) := by
  intro n
  induction n with
  | zero =>
    intro L S m hl hS hs hp hf
    obtain rfl : L = [] := List.eq_nil_of_length_eq_zero hl
    obtain ⟨hm, b, p⟩ := (PO_snoc [] S m hS).mp hp
    have p0 : rs S m = 0 := p
    rw [HKe_S hk (by omega) hs b]
    have r := rm.1 m hm.1 hm.2
    have hle : eeT R e S m ≤ R 11 m := by
      have := (zmn_le (C := fun b => bt (rs S m) b && decide (e (rs S m * 6 + b) < 1000)) (g := fun b => max (R 11 m) (e (rs S m * 6 + b) + R 14 (b * 6 + m) + 1)) (n := 6) (i := 0) (s := if rs S m = 0 then R 11 m else 1000)).mp (Int.le_refl _)
      have h1 := this.1
      rw [if_pos p0] at h1
      unfold eeT
      rw [if_pos p0]
      exact h1
    unfold la at hf ⊢
    rw [laS_snoc] at hf ⊢
    have e0 : laS R [] = (-1, -1) := rfl
    rw [e0] at hf ⊢
    unfold stF at hf ⊢
    rw [if_neg (show ¬ ((-1 : Int), (-1 : Int)).2 = 99 by decide)] at hf ⊢
    by_cases c : R 12 m < enS R (-1) (-1) m
    · rw [if_pos c] at hf
      exact absurd rfl hf
    · rw [if_neg c]
      unfold enS skS at c ⊢
      rw [if_pos rfl] at c ⊢
      unfold eeS
      rw [if_pos ⟨by omega, by omega⟩]
      dsimp only
      omega
  | succ n ih =>
    intro L S m hl hS hs hp hf
    rcases List.eq_nil_or_concat L with q | ⟨L', b', q⟩
    · subst q; cases hl
    · subst q
      rw [List.concat_eq_append] at hl hp hf ⊢
      obtain ⟨hm, b, p⟩ := (PO_snoc _ S m hS).mp hp
      have rr := rs_rng (S := S) (m := m) (by omega)
      have hb := (PO_snoc L' (rs S m) b' (by omega)).mp p
      have ll : L'.length = n := by rw [List.length_append] at hl; simpa using hl
      rw [HKe_S hk (by omega) hs b]
      have r := rm.1 m hm.1 hm.2
      unfold la at hf ⊢
      rw [laS_snoc] at hf ⊢
      have f1 : (laS R (L' ++ [b'])).1 = b' := by rw [laS_snoc]; exact stF_1
      by_cases c0 : (laS R (L' ++ [b'])).2 = 99
      · unfold stF at hf
        rw [if_pos c0] at hf
        exact absurd rfl hf
      · have h1 := ih L' (rs S m) b' ll (by omega) (sub_rs hs (by omega)) p c0
        have h2 : e (rs S m * 6 + b') < 1000 := by
          have e1 := HKe_S hk (S := rs S m) (m := b') (by omega) (sub_rs hs (by omega)) hb.2.1
          have e2 : la R (L' ++ [b']) ≤ 99 := by
            unfold la
            rw [laS_snoc]
            unfold stF
            have rb := rm.1 b' hb.1.1 hb.1.2
            split
            · exact Int.le_refl _
            · split
              · exact Int.le_refl _
              · dsimp only; omega
          omega
        have hle : eeT R e S m ≤ max (R 11 m) (e (rs S m * 6 + b') + R 14 (b' * 6 + m) + 1) := by
          have := (zmn_le (C := fun b => bt (rs S m) b && decide (e (rs S m * 6 + b) < 1000)) (g := fun b => max (R 11 m) (e (rs S m * 6 + b) + R 14 (b * 6 + m) + 1)) (n := 6) (i := 0) (s := if rs S m = 0 then R 11 m else 1000)).mp (Int.le_refl _)
          exact this.2 b' (by omega) (by omega) (by rw [hb.2.1, decide_eq_true h2]; rfl)
        unfold stF at hf ⊢
        rw [if_neg c0] at hf ⊢
        by_cases c : R 12 m < enS R (laS R (L' ++ [b'])).1 (laS R (L' ++ [b'])).2 m
        · rw [if_pos c] at hf
          exact absurd rfl hf
        · rw [if_neg c]
          have h3 : e (rs S m * 6 + b') ≤ (laS R (L' ++ [b'])).2 := h1
          rw [f1] at c ⊢
          unfold enS skS at c ⊢
          rw [if_neg (by omega)] at c ⊢
          have h4 : eeT R e S m ≤ max (R 11 m) ((laS R (L' ++ [b'])).2 + R 14 (b' * 6 + m) + 1) := by omega
          unfold eeS
          rw [if_pos ⟨by omega, by omega⟩]
          dsimp only
          omega
theorem hk_at (rm : RM R D) (hk : HKe R W e 64) (hW : 0 ≤ W ∧ W < 64) : ∀ (n : Nat) (S m : Int), S.toNat ≤ n → (0 ≤ S ∧ S < 64 ∧ 0 ≤ m ∧ m < 6) → sub S W → bt S m = true → e (S * 6 + m) < 1000 → ∃ L, PO (L ++ [m]) S ∧ la R (L ++ [m]) = e (S * 6 + m) ∧ e (S * 6 + m) ≤ 30 := by
  intro n
  induction n with
  | zero =>
    intro S m hn r hs b he
    have := bt_pos (by omega) b
    omega
  | succ n ih =>
    intro S m hn r hs b he
    have rr := rs_rng (S := S) (m := m) (by omega)
    have rl := rr.2.2 b
    have rmm := rm.1 m (by omega) (by omega)
    have e1 := HKe_S hk (by omega) hs b
    rw [e1] at he ⊢
    have he2 : eeT R e S m < 1000 ∧ eeT R e S m + R 13 m - 1 ≤ R 12 m := by
      by_cases q : eeT R e S m < 1000 ∧ eeT R e S m + R 13 m - 1 ≤ R 12 m
      · exact q
      · unfold eeS at he; rw [if_neg q] at he; omega
    have he3 : eeS R e S m = eeT R e S m + R 13 m - 1 := by unfold eeS; rw [if_pos he2]
    rw [he3]
    rcases zmn_att (C := fun b => bt (rs S m) b && decide (e (rs S m * 6 + b) < 1000)) (g := fun b => max (R 11 m) (e (rs S m * 6 + b) + R 14 (b * 6 + m) + 1)) 6 0 (if rs S m = 0 then R 11 m else 1000) with q | ⟨b', h1, h2, h3, h4⟩
    · have q' : eeT R e S m = if rs S m = 0 then R 11 m else 1000 := q
      by_cases c : rs S m = 0
      · rw [if_pos c] at q'
        refine ⟨[], (PO_snoc [] S m (by omega)).mpr ⟨by omega, b, c⟩, ?_, by omega⟩
        unfold la
        rw [laS_snoc]
        have e0 : laS R [] = (-1, -1) := rfl
        rw [e0]
        unfold stF enS skS
        rw [if_neg (show ¬ ((-1 : Int), (-1 : Int)).2 = 99 by decide), if_pos rfl, if_neg (by omega)]
        dsimp only
        omega
      · rw [if_neg c] at q'
        omega
    · have q' : eeT R e S m = max (R 11 m) (e (rs S m * 6 + b') + R 14 (b' * 6 + m) + 1) := h4
      rw [Bool.and_eq_true_iff] at h3
      obtain ⟨L, p, l1, l2⟩ := ih (rs S m) b' (by omega) (by omega) (sub_rs hs (by omega)) h3.1 (of_decide_eq_true h3.2)
      refine ⟨L ++ [b'], (PO_snoc _ S m (by omega)).mpr ⟨by omega, b, p⟩, ?_, by omega⟩
      have l1' : (laS R (L ++ [b'])).2 = e (rs S m * 6 + b') := l1
      have f1 : (laS R (L ++ [b'])).1 = b' := by rw [laS_snoc]; exact stF_1
      unfold la
      rw [laS_snoc]
      unfold stF
      rw [if_neg (by omega), f1]
      unfold enS skS
      rw [if_neg (by omega), l1', ← q', if_neg (by omega)]
/-- soonest -/
def soS (e : Int → Int) (S : Int) : Int := if S = 0 then -1 else zfor (fun m s => min s (e (S * 6 + m))) 6 0 1000
theorem soS_le (rm : RM R D) (hk : HKe R W e 64) (hW : 0 ≤ W ∧ W < 64) {S : Int} (hS : 0 ≤ S ∧ S < 64) (hs : sub S W) {L : List Int} (p : PO L S) (f : la R L ≠ 99) : soS e S ≤ la R L := by
  rcases List.eq_nil_or_concat L with q | ⟨L', m, q⟩
  · subst q
    have : S = 0 := p
    unfold soS
    rw [if_pos this]
    exact Int.le_refl _
  · subst q
    rw [List.concat_eq_append] at p f ⊢
    have hm := (PO_snoc _ S m hS).mp p
    have h1 := hk_le rm hk hW L'.length L' S m rfl hS hs p f
    have h0 := bt_pos (by omega) hm.2.1
    unfold soS
    rw [if_neg (by omega)]
    have := (zfor_pred (f := fun m s => min s (e (S * 6 + m))) (Q := fun s => (zfor (fun m s => min s (e (S * 6 + m))) 6 0 1000) ≤ s) (P := fun m => (zfor (fun m s => min s (e (S * 6 + m))) 6 0 1000) ≤ e (S * 6 + m)) 6 0 1000 (fun j t _ _ => by omega)).mp (Int.le_refl _)
    exact Int.le_trans (this.2 m (by omega) (by omega)) h1
theorem soS_at (rm : RM R D) (hk : HKe R W e 64) (hW : 0 ≤ W ∧ W < 64) {S : Int} (hS : 0 ≤ S ∧ S < 64) (hs : sub S W) (h : soS e S < 1000) : ∃ L, PO L S ∧ la R L = soS e S ∧ soS e S ≤ 30 := by
  by_cases c : S = 0
  · refine ⟨[], c, ?_, ?_⟩
    · unfold soS
      rw [if_pos c]
      rfl
    · unfold soS
      rw [if_pos c]
      omega
  · have e1 : soS e S = zmn (fun _ => true) (fun m => e (S * 6 + m)) 6 0 1000 := by
      unfold soS zmn
      rw [if_neg c]
      rfl
    rw [e1] at h ⊢
    rcases zmn_att (C := fun _ => true) (g := fun m => e (S * 6 + m)) 6 0 1000 with q | ⟨m, h1, h2, -, h4⟩
    · omega
    · rw [h4] at h ⊢
      have b : bt S m = true := by
        have := hk S m (by omega) (by omega) h1 (by omega)
        cases b : bt S m with
        | true => rfl
        | false =>
          rw [bt_and (by omega), b] at this
          rw [show (false && bt W m) = false from rfl, if_neg (by decide)] at this
          omega
      obtain ⟨L, p1, p2, p3⟩ := hk_at rm hk hW S.toNat S m (Nat.le_refl _) (by omega) hs b h
      exact ⟨_, p1, p2, p3⟩
theorem soS_rng (rm : RM R D) (hk : HKe R W e 64) (hW : 0 ≤ W ∧ W < 64) {S : Int} (hS : 0 ≤ S ∧ S < 64) (hs : sub S W) : soS e S ≤ 30 ∨ soS e S = 1000 := by
  by_cases c : soS e S < 1000
  · obtain ⟨L, -, -, h⟩ := soS_at rm hk hW hS hs c
    exact Or.inl h
  · right
    unfold soS at c ⊢
    by_cases q : S = 0
    · rw [if_pos q] at c; omega
    · rw [if_neg q] at c ⊢
      have : zfor (fun m s => min s (e (S * 6 + m))) 6 0 1000 ≤ 1000 := by
        have := (zmn_le (C := fun _ => true) (g := fun m => e (S * 6 + m)) (n := 6) (i := 0) (s := 1000)).mp (Int.le_refl _)
        exact this.1
      omega
end HK
