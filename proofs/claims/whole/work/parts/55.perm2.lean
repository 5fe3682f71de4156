/-! the orders: which they are, which is the first in time -/
def cdS (S : Int) : Int := ((((zb (bt S 0) + zb (bt S 1)) + zb (bt S 2)) + zb (bt S 3)) + zb (bt S 4)) + zb (bt S 5)
theorem cdS_rng (S : Int) : 0 ≤ cdS S ∧ cdS S ≤ 6 := by
  have h0 := zb_rng (bt S 0)
  have h1 := zb_rng (bt S 1)
  have h2 := zb_rng (bt S 2)
  have h3 := zb_rng (bt S 3)
  have h4 := zb_rng (bt S 4)
  have h5 := zb_rng (bt S 5)
  unfold cdS
  omega
theorem cdS_rs {S m : Int} (h : 0 ≤ S ∧ S < 64 ∧ 0 ≤ m ∧ m < 6) (b1 : bt S m = true) : cdS (rs S m) = cdS S - 1 := by
  unfold cdS
  rw [bt_rs (by omega), bt_rs (by omega), bt_rs (by omega), bt_rs (by omega), bt_rs (by omega), bt_rs (by omega)]
  have q : m = 0 ∨ m = 1 ∨ m = 2 ∨ m = 3 ∨ m = 4 ∨ m = 5 := by omega
  rcases q with rfl | rfl | rfl | rfl | rfl | rfl <;> (rw [b1]; simp [zb]; try omega)
theorem cdS_0 {S : Int} (h : 0 ≤ S ∧ S < 64) (c : cdS S ≤ 0) : S = 0 := by
  refine bt_ext (by omega) (fun m h1 h2 => ?_)
  rw [bt_0]
  have h0 := zb_rng (bt S 0)
  have h1' := zb_rng (bt S 1)
  have h2' := zb_rng (bt S 2)
  have h3 := zb_rng (bt S 3)
  have h4 := zb_rng (bt S 4)
  have h5 := zb_rng (bt S 5)
  unfold cdS at c
  have key : zb (bt S m) = 0 := by
    have q : m = 0 ∨ m = 1 ∨ m = 2 ∨ m = 3 ∨ m = 4 ∨ m = 5 := by omega
    rcases q with rfl | rfl | rfl | rfl | rfl | rfl <;> omega
  cases f : bt S m with
  | false => rfl
  | true => rw [f] at key; cases key
theorem mem_mlS : ∀ (k : Nat) (i m : Int), i ≤ m → m < i + k → m ∈ mlS k i := by
  intro k
  induction k with
  | zero => intro i m h1 h2; omega
  | succ k ih =>
    intro i m h1 h2
    by_cases c : m = i
    · subst c; exact List.mem_cons_self
    · exact List.mem_cons_of_mem _ (ih (i + 1) m (by omega) (by omega))
theorem mem_pm : ∀ (n : Nat) (S : Int) (L : List Int), (0 ≤ S ∧ S < 64) → cdS S ≤ n → (L ∈ pm n S ↔ PO L S) := by
  intro n
  induction n with
  | zero =>
    intro S L hS hc
    have e := cdS_0 hS (by omega)
    subst e
    constructor
    · intro h
      have : L = [] := by
        have h2 : L ∈ ([[]] : List (List Int)) := h
        simpa using h2
      subst this
      rfl
    · intro h
      cases L with
      | nil => exact List.mem_cons_self
      | cons m L => have := h.2.1; rw [bt_0] at this; cases this
  | succ n ih =>
    intro S L hS hc
    unfold pm
    by_cases c : S = 0
    · rw [if_pos c]
      subst c
      constructor
      · intro h
        have : L = [] := by simpa using h
        subst this
        rfl
      · intro h
        cases L with
        | nil => exact List.mem_cons_self
        | cons m L => have := h.2.1; rw [bt_0] at this; cases this
    · rw [if_neg c, List.mem_flatMap]
      constructor
      · rintro ⟨m, hm, hl⟩
        have hm2 := mlS_mem 6 0 m hm
        by_cases b1 : bt S m = true
        · rw [if_pos b1, List.mem_map] at hl
          obtain ⟨L', q1, q2⟩ := hl
          subst q2
          have rr := rs_rng (S := S) (m := m) (by omega)
          have cc := cdS_rs (S := S) (m := m) (by omega) b1
          exact ⟨by omega, b1, (ih (rs S m) L' (by omega) (by omega)).mp q1⟩
        · rw [if_neg b1] at hl
          cases hl
      · intro h
        cases L with
        | nil => exact absurd h c
        | cons m L =>
          obtain ⟨hm, b1, p⟩ := h
          have rr := rs_rng (S := S) (m := m) (by omega)
          have cc := cdS_rs (S := S) (m := m) (by omega) b1
          refine ⟨m, mem_mlS 6 0 m (by omega) (by omega), ?_⟩
          rw [if_pos b1, List.mem_map]
          exact ⟨L, (ih (rs S m) L (by omega) (by omega)).mpr p, rfl⟩
theorem mem_pm6 {S : Int} {L : List Int} (hS : 0 ≤ S ∧ S < 64) : L ∈ pm 6 S ↔ PO L S := mem_pm 6 S L hS (by have := cdS_rng S; omega)
theorem PO_len : ∀ (L : List Int) (S : Int), (0 ≤ S ∧ S < 64) → PO L S → (L.length : Int) = cdS S ∧ ∀ m, m ∈ L → 0 ≤ m ∧ m < 6 ∧ bt S m = true := by
  intro L
  induction L with
  | nil =>
    intro S hS h
    have e : S = 0 := h
    subst e
    refine ⟨?_, fun m hm => by cases hm⟩
    unfold cdS
    rw [bt_0, bt_0, bt_0, bt_0, bt_0, bt_0]
    rfl
  | cons x L ih =>
    intro S hS h
    obtain ⟨hx, b1, p⟩ := h
    have rr := rs_rng (S := S) (m := x) (by omega)
    have cc := cdS_rs (S := S) (m := x) (by omega) b1
    obtain ⟨q1, q2⟩ := ih (rs S x) (by omega) p
    refine ⟨by rw [List.length_cons]; omega, fun m hm => ?_⟩
    rcases List.mem_cons.mp hm with e | e
    · subst e; exact ⟨hx.1, hx.2, b1⟩
    · have := q2 m e
      refine ⟨this.1, this.2.1, ?_⟩
      have z := this.2.2
      rw [bt_rs (by omega), Bool.and_eq_true_iff] at z
      exact z.1
/-- first in time -/
def laE (R : Nat → Int → Int) (p y : Int) (L : List Int) : Int := (L.foldl (stF R) (p, y)).2
theorem laE_99 {R : Nat → Int → Int} : ∀ (L : List Int) (p : Int), laE R p 99 L = 99 := by
  intro L
  induction L with
  | nil => intro p; rfl
  | cons m L ih =>
    intro p
    show (L.foldl (stF R) (stF R (p, 99) m)).2 = 99
    have e : stF R (p, 99) m = (m, 99) := by unfold stF; rw [if_pos rfl]
    rw [e]
    exact ih m
theorem laE_cons {R : Nat → Int → Int} {p y m : Int} {L : List Int} (h : y ≠ 99) : laE R p y (m :: L) = if R 12 m < enS R p y m then 99 else laE R m (enS R p y m) L := by
  show (L.foldl (stF R) (stF R (p, y) m)).2 = _
  have e : stF R (p, y) m = if R 12 m < enS R p y m then (m, 99) else (m, enS R p y m) := by unfold stF; rw [if_neg h]
  rw [e]
  by_cases c : R 12 m < enS R p y m
  · rw [if_pos c, if_pos c]
    exact laE_99 L m
  · rw [if_neg c, if_neg c]
    rfl
section FIRST
variable {R : Nat → Int → Int} {D : Int → Bool}
theorem laE_ge (rm : RM R D) : ∀ (L : List Int) (p y : Int), (0 ≤ p ∧ p < 6) → (-1 ≤ y ∧ y ≤ 30) → (∀ m, m ∈ L → 0 ≤ m ∧ m < 6) → y ≤ laE R p y L := by
  intro L
  induction L with
  | nil => intro p y _ _ _; exact Int.le_refl _
  | cons m L ih =>
    intro p y hp hy hl
    have hm := hl m List.mem_cons_self
    have r := rm.1 m hm.1 hm.2
    have r14 := rm.2 (p * 6 + m) (by omega) (by omega)
    rw [laE_cons (by omega)]
    by_cases c : R 12 m < enS R p y m
    · rw [if_pos c]; omega
    · rw [if_neg c]
      have h1 : y ≤ enS R p y m := by unfold enS skS; rw [if_neg (by omega)]; omega
      exact Int.le_trans h1 (ih m _ hm (by omega) (fun j hj => hl j (List.mem_cons_of_mem _ hj)))
theorem dfS_find (rm : RM R D) {lt : Int} (hlt : -1 ≤ lt ∧ lt ≤ 30) : ∀ (n : Nat) (S p y : Int), (0 ≤ S ∧ S < 64) → cdS S ≤ n → okP p y → y ≤ lt → dfS R lt n S p y = (pm n S).find? (fun L => decide (laE R p y L ≤ lt)) := by
  intro n
  induction n with
  | zero =>
    intro S p y hS hc hp hy
    have e := cdS_0 hS (by omega)
    unfold dfS pm
    rw [if_pos e]
    rw [List.find?_cons_of_pos (by exact decide_eq_true hy)]
  | succ n ih =>
    intro S p y hS hc hp hy
    unfold dfS pm
    by_cases c : S = 0
    · rw [if_pos c, if_pos c]
      rw [List.find?_cons_of_pos (by exact decide_eq_true hy)]
    · rw [if_neg c, if_neg c, List.find?_flatMap]
      have key : ∀ l : List Int, (∀ m, m ∈ l → 0 ≤ m ∧ m < 6) → l.findSome? (fun m => if bt S m = true then (if enS R p y m ≤ R 12 m ∧ enS R p y m ≤ lt then (dfS R lt n (rs S m) m (enS R p y m)).map (fun L => m :: L) else none) else none) = l.findSome? (fun m => (if bt S m = true then (pm n (rs S m)).map (fun L => m :: L) else []).find? (fun L => decide (laE R p y L ≤ lt))) := by
        intro l
        induction l with
        | nil => intro _; rfl
        | cons m l ihl =>
          intro hl
          have hm := hl m List.mem_cons_self
          rw [List.findSome?_cons, List.findSome?_cons, ihl (fun j hj => hl j (List.mem_cons_of_mem _ hj))]
          have e : (if bt S m = true then (if enS R p y m ≤ R 12 m ∧ enS R p y m ≤ lt then (dfS R lt n (rs S m) m (enS R p y m)).map (fun L => m :: L) else none) else none) = (if bt S m = true then (pm n (rs S m)).map (fun L => m :: L) else []).find? (fun L => decide (laE R p y L ≤ lt)) := by
            by_cases b1 : bt S m = true
            · rw [if_pos b1, if_pos b1, List.find?_map]
              have rr := rs_rng (S := S) (m := m) (by omega)
              have cc := cdS_rs (S := S) (m := m) (by omega) b1
              have r := rm.1 m hm.1 hm.2
              have en1 : -1 ≤ enS R p y m := by
                unfold enS skS
                split <;> omega
              have hy99 : y ≠ 99 := by omega
              by_cases b2 : enS R p y m ≤ R 12 m ∧ enS R p y m ≤ lt
              · rw [if_pos b2, ih (rs S m) m _ (by omega) (by omega) (Or.inr ⟨hm.1, hm.2, en1, by omega⟩) b2.2]
                congr 2
                funext L
                show decide (laE R m (enS R p y m) L ≤ lt) = decide (laE R p y (m :: L) ≤ lt)
                rw [laE_cons hy99, if_neg (by omega)]
              · rw [if_neg b2]
                have none1 : (pm n (rs S m)).find? ((fun L => decide (laE R p y L ≤ lt)) ∘ fun L => m :: L) = none := by
                  rw [List.find?_eq_none]
                  intro L hL
                  show ¬ decide (laE R p y (m :: L) ≤ lt) = true
                  rw [decide_eq_true_iff, laE_cons hy99]
                  by_cases b3 : R 12 m < enS R p y m
                  · rw [if_pos b3]; omega
                  · rw [if_neg b3]
                    have po := (mem_pm n (rs S m) L (by omega) (by omega)).mp hL
                    have pl := (PO_len L (rs S m) (by omega) po).2
                    have := laE_ge rm L m (enS R p y m) hm (by omega) (fun j hj => ⟨(pl j hj).1, (pl j hj).2.1⟩)
                    omega
                rw [none1]
                rfl
            · rw [if_neg b1, if_neg b1]
              rfl
          rw [e]
      exact key (mlS 6 0) (fun m hm => by have := mlS_mem 6 0 m hm; omega)
theorem dfS_first (rm : RM R D) {lt S : Int} (hlt : -1 ≤ lt ∧ lt ≤ 30) (hS : 0 ≤ S ∧ S < 64) : dfS R lt 6 S (-1) (-1) = (pm 6 S).find? (fun L => decide (la R L ≤ lt)) := dfS_find rm hlt 6 S (-1) (-1) hS (by have := cdS_rng S; omega) (Or.inl ⟨rfl, rfl⟩) (by omega)
theorem la_ge (rm : RM R D) {L : List Int} (hl : ∀ m, m ∈ L → 0 ≤ m ∧ m < 6) : -1 ≤ la R L ∧ la R L ≤ 99 := by
  constructor
  · cases L with
    | nil => exact Int.le_refl _
    | cons m L =>
      have hm := hl m List.mem_cons_self
      have r := rm.1 m hm.1 hm.2
      show -1 ≤ laE R (-1) (-1) (m :: L)
      rw [laE_cons (by decide)]
      by_cases c : R 12 m < enS R (-1) (-1) m
      · rw [if_pos c]; omega
      · rw [if_neg c]
        have en1 : -1 ≤ enS R (-1) (-1) m := by unfold enS skS; rw [if_pos rfl]; omega
        exact Int.le_trans en1 (laE_ge rm L m _ hm (by omega) (fun j hj => hl j (List.mem_cons_of_mem _ hj)))
  · have : ∀ (L : List Int) (p y : Int), (∀ m, m ∈ L → 0 ≤ m ∧ m < 6) → y ≤ 99 → laE R p y L ≤ 99 := by
      intro L
      induction L with
      | nil => intro p y _ h; exact h
      | cons m L ih =>
        intro p y hl h
        have hm := hl m List.mem_cons_self
        have r := rm.1 m hm.1 hm.2
        by_cases c0 : y = 99
        · rw [c0, laE_99]; omega
        · rw [laE_cons c0]
          by_cases c : R 12 m < enS R p y m
          · rw [if_pos c]; omega
          · rw [if_neg c]
            exact ih m _ (fun j hj => hl j (List.mem_cons_of_mem _ hj)) (by omega)
    exact this L (-1) (-1) hl (by omega)
end FIRST
/-! rows that hold a list -/
def AG (g : Int → Int) (L : List Int) : Prop := ∀ j : Int, 0 ≤ j → j < L.length → g j = lst L j
theorem fiN_congr {g h : Int → Int} {k : Int} (e : ∀ j, 0 ≤ j → j < k → g j = h j) : ∀ (n : Nat) (i : Int), i + 2 ≤ k → fiN n g i = fiN n h i := by
  intro n
  induction n with
  | zero => intro i _; rfl
  | succ n ih =>
    intro i hi
    unfold fiN
    by_cases c : 0 ≤ i
    · rw [if_pos c, if_pos c, e i c (by omega), e (i + 1) (by omega) (by omega), ih (i - 1) (by omega)]
    · rw [if_neg c, if_neg c]
theorem fiN_le {g : Int → Int} : ∀ (n : Nat) (i : Int), fiN n g i ≤ i := by
  intro n
  induction n with
  | zero => intro i; exact Int.le_refl _
  | succ n ih =>
    intro i
    unfold fiN
    split
    · split
      · have := ih (i - 1); omega
      · exact Int.le_refl _
    · exact Int.le_refl _
theorem fjN_congr {g h : Int → Int} {k p : Int} (e : ∀ j, 0 ≤ j → j < k → g j = h j) : ∀ (n : Nat) (j : Int), j < k → fjN n g p j = fjN n h p j := by
  intro n
  induction n with
  | zero => intro i _; rfl
  | succ n ih =>
    intro i hi
    unfold fjN
    by_cases c : 0 ≤ i
    · rw [if_pos c, if_pos c, e i c hi, ih (i - 1) (by omega)]
    · rw [if_neg c, if_neg c]
theorem fjN_le {g : Int → Int} {p : Int} : ∀ (n : Nat) (i : Int), fjN n g p i ≤ i := by
  intro n
  induction n with
  | zero => intro i; exact Int.le_refl _
  | succ n ih =>
    intro i
    unfold fjN
    split
    · split
      · have := ih (i - 1); omega
      · exact Int.le_refl _
    · exact Int.le_refl _
theorem swN_congr {g h : Int → Int} {k a b : Int} (e : ∀ j, 0 ≤ j → j < k → g j = h j) (ha : 0 ≤ a ∧ a < k ∧ 0 ≤ b ∧ b < k) : ∀ j, 0 ≤ j → j < k → swN g a b j = swN h a b j := by
  intro j h1 h2
  unfold swN zu
  by_cases c : j = b
  · rw [if_pos c, if_pos c, e a (by omega) (by omega)]
  · rw [if_neg c, if_neg c]
    by_cases c2 : j = a
    · rw [if_pos c2, if_pos c2, e b (by omega) (by omega)]
    · rw [if_neg c2, if_neg c2, e j h1 h2]
theorem rvN_congr {k : Int} : ∀ (n : Nat) (g h : Int → Int) (a b : Int), (∀ j, 0 ≤ j → j < k → g j = h j) → 0 ≤ a → b < k → ∀ j, 0 ≤ j → j < k → rvN n g a b j = rvN n h a b j := by
  intro n
  induction n with
  | zero => intro g h a b e _ _ j h1 h2; exact e j h1 h2
  | succ n ih =>
    intro g h a b e ha hb j h1 h2
    unfold rvN
    by_cases c : a < b
    · rw [if_pos c, if_pos c]
      exact ih _ _ _ _ (swN_congr e (by omega)) (by omega) (by omega) j h1 h2
    · rw [if_neg c, if_neg c]
      exact e j h1 h2
theorem lst_mlS {f : Int → Int} : ∀ (k : Nat) (i j : Int), 0 ≤ j → j < k → lst ((mlS k i).map f) j = f (i + j) := by
  intro k
  induction k with
  | zero => intro i j h1 h2; omega
  | succ k ih =>
    intro i j h1 h2
    by_cases c : j = 0
    · subst c
      show f i = f (i + 0)
      rw [Int.add_zero]
    · have := ih (i + 1) (j - 1) (by omega) (by omega)
      rw [show i + 1 + (j - 1) = i + j by omega] at this
      rw [← this]
      unfold lst
      have e : j.toNat = (j - 1).toNat + 1 := by omega
      rw [e]
      rfl
theorem mlS_len : ∀ (k : Nat) (i : Int), (mlS k i).length = k := by
  intro k
  induction k with
  | zero => intro i; rfl
  | succ k ih => intro i; show (mlS k (i + 1)).length + 1 = k + 1; rw [ih]
theorem nx_none {g : Int → Int} {L : List Int} (a : AG g L) (h : nxL L = none) : nxI L.length g < 0 := by
  unfold nxL at h
  by_cases c : nxI L.length (lst L) < 0
  · have : nxI L.length g = nxI L.length (lst L) := fiN_congr a 6 _ (by omega)
    omega
  · rw [if_neg c] at h; cases h
theorem nx_some {g : Int → Int} {L L' : List Int} (a : AG g L) (h : nxL L = some L') : 0 ≤ nxI L.length g ∧ L'.length = L.length ∧ (fjN 6 g (g (nxI L.length g)) (L.length - 1) ≥ 0 → AG (nxR L.length g) L') := by
  unfold nxL at h
  by_cases c : nxI L.length (lst L) < 0
  · rw [if_pos c] at h; cases h
  · rw [if_neg c] at h
    have e1 : nxI L.length g = nxI L.length (lst L) := fiN_congr a 6 _ (by omega)
    have le1 : nxI L.length g ≤ L.length - 2 := fiN_le 6 _
    cases h
    refine ⟨by omega, by rw [List.length_map, mlS_len], fun hj j h1 h2 => ?_⟩
    rw [List.length_map, mlS_len] at h2
    rw [lst_mlS L.length 0 j h1 h2, Int.zero_add]
    unfold nxR
    have gv : g (nxI L.length g) = lst L (nxI L.length (lst L)) := by rw [a _ (by omega) (by omega), e1]
    have e2 : fjN 6 g (g (nxI L.length g)) (L.length - 1) = fjN 6 (lst L) (lst L (nxI L.length (lst L))) (L.length - 1) := by
      rw [gv]
      exact fjN_congr a 6 _ (by omega)
    have le2 := fjN_le (g := lst L) (p := lst L (nxI L.length (lst L))) 6 (L.length - 1)
    have hj2 : 0 ≤ fjN 6 (lst L) (lst L (nxI L.length (lst L))) (L.length - 1) := by rw [← e2]; exact hj
    have c2 : 0 ≤ nxI L.length (lst L) ∧ nxI L.length (lst L) ≤ L.length - 2 := by omega
    rw [e2, e1]
    exact rvN_congr 6 _ _ _ _ (swN_congr a (by omega)) (by omega) (by omega) j h1 h2
theorem chS_at {S : Int} (h : 0 ≤ S ∧ S < 64) : chN (pm 6 S) = true ∧ (pm 6 S).head? = some (ascS S) := by
  have := chS_all ⟨S.toNat, by omega⟩
  dsimp only at this
  rw [Int.toNat_of_nonneg h.1] at this
  unfold chS at this
  rw [Bool.and_eq_true_iff, decide_eq_true_iff] at this
  exact this
