/-! numbers as integers; equations for each kind of instruction -/
def zi (z : Int) : Int32 := Int32.ofInt z
def zl (z : Int) : Int64 := Int64.ofInt z
def zb (b : Bool) : Int := if b = true then 1 else 0
theorem zb_t : zb true = 1 := rfl
theorem zb_f : zb false = 0 := rfl
theorem zi_self (v : Int32) : zi v.toInt = v := Int32.ofInt_toInt v
theorem zi_add (x y : Int) : zi x + zi y = zi (x + y) := (Int32.ofInt_add x y).symm
theorem zi_sub (x y : Int) : zi x - zi y = zi (x - y) := (Int32.ofInt_sub x y).symm
theorem zi_mul (x y : Int) : zi x * zi y = zi (x * y) := (Int32.ofInt_mul x y).symm
theorem zi_neg (x : Int) : - zi x = zi (-x) := (Int32.ofInt_neg x).symm
theorem zl_add (x y : Int) : zl x + zl y = zl (x + y) := (Int64.ofInt_add x y).symm
theorem zl_mul (x y : Int) : zl x * zl y = zl (x * y) := (Int64.ofInt_mul x y).symm
theorem zi_toInt {x : Int} (h1 : -2147483648 ≤ x) (h2 : x < 2147483648) : (zi x).toInt = x := Int32.toInt_ofInt_of_le (by simpa using h1) (by simpa using h2)
theorem zi_lt {x y : Int} (h : -2147483648 ≤ x ∧ x < 2147483648 ∧ -2147483648 ≤ y ∧ y < 2147483648) : zi x < zi y ↔ x < y := by
  rw [Int32.lt_iff_toInt_lt, zi_toInt h.1 h.2.1, zi_toInt h.2.2.1 h.2.2.2]
theorem zi_eq {x y : Int} (h : -2147483648 ≤ x ∧ x < 2147483648 ∧ -2147483648 ≤ y ∧ y < 2147483648) : zi x = zi y ↔ x = y := by
  constructor
  · intro q
    have q2 := congrArg Int32.toInt q
    rwa [zi_toInt h.1 h.2.1, zi_toInt h.2.2.1 h.2.2.2] at q2
  · intro q; rw [q]
theorem zi_nat {x : Int} (h1 : 0 ≤ x) (h2 : x < 2147483648) : (zi x).toNatClampNeg = x.toNat := Int32.toNatClampNeg_ofInt_of_le (by omega) (by simpa using h2)
theorem zi_ofNat (n : Nat) : Int32.ofNat n = zi n := (Int32.ofInt_eq_ofNat).symm
theorem zi_div {x y : Int} (h : -2147483648 ≤ x ∧ x < 2147483648 ∧ 0 < y ∧ y < 2147483648) : zi x / zi y = zi (x.tdiv y) := by
  have e1 : (Int32.minValue).toInt = -2147483648 := by decide
  have e2 : (Int32.maxValue).toInt = 2147483647 := by decide
  exact (Int32.ofInt_tdiv (by omega) (by omega) (by omega) (by omega)).symm
theorem zi_rem {x y : Int} (h : -2147483648 ≤ x ∧ x < 2147483648 ∧ 0 < y ∧ y < 2147483648) : zi x - zi x / zi y * zi y = zi (x.tmod y) := by
  rw [zi_div h, zi_mul, zi_sub]
  congr 1
  have := Int.tmod_add_tdiv_mul x y
  omega
section EV
variable {d mi pc : Nat} {L : zL} {S : List Value} {M : zM} {K : zK}
theorem ev_of {x : Instr × Nat} (h : zI mi pc = some x) : Ev d mi pc L S M K = zGo (zC d) (Ev d mi) K (zStep (zow mi) (zrt mi) (zkd mi == 2) x.1 pc L S M) := by
  rw [Ev_eq]
  unfold zOut
  rw [h]
theorem ev_n {x : Instr × Nat} {pc' : Nat} {L' : zL} {S' : List Value} {M' : zM} (h : zI mi pc = some x) (hs : zStep (zow mi) (zrt mi) (zkd mi == 2) x.1 pc L S M = zN pc' L' S' M') : Ev d mi pc L S M K = Ev d mi pc' L' S' M' K := by
  rw [ev_of h, hs]
  rfl
theorem ev_push8 {n : Int} {l : Nat} (h : zI mi pc = some (.bipush n, l)) (hv : (Int8.ofInt n).toInt32 = zi n) : Ev d mi pc L S M K = Ev d mi (pc + 2) L (.int (zi n) :: S) M K := by
  rw [← hv]; exact ev_n h rfl
theorem ev_push16 {n : Int} {l : Nat} (h : zI mi pc = some (.sipush n, l)) (hv : (Int16.ofInt n).toInt32 = zi n) : Ev d mi pc L S M K = Ev d mi (pc + 3) L (.int (zi n) :: S) M K := by
  rw [← hv]; exact ev_n h rfl
theorem ev_ldc2 {ix l : Nat} {v : Int64} {n : Int} (h : zI mi pc = some (.ldc2_w ix, l)) (hc : zLc (zow mi) ix = some v) (hv : v = zl n) : Ev d mi pc L S M K = Ev d mi (pc + 3) L (.long (zl n) :: S) M K := by
  subst hv
  refine ev_n h ?_
  show (match zLc (zow mi) ix with | some v => zN (pc + 3) L (.long v :: S) M | none => none) = _
  rw [hc]
theorem ev_lconst {k : Fin 2} {l : Nat} {n : Int} (h : zI mi pc = some (.lconst k, l)) (hv : Int64.ofNat (k : Nat) = zl n) : Ev d mi pc L S M K = Ev d mi (pc + 1) L (.long (zl n) :: S) M K := by
  rw [← hv]; exact ev_n h rfl
theorem ev_iadd {l : Nat} {x y : Int} (h : zI mi pc = some (.iadd, l)) : Ev d mi pc L (.int (zi y) :: .int (zi x) :: S) M K = Ev d mi (pc + 1) L (.int (zi (x + y)) :: S) M K := by
  rw [← zi_add]; exact ev_n h rfl
theorem ev_isub {l : Nat} {x y : Int} (h : zI mi pc = some (.isub, l)) : Ev d mi pc L (.int (zi y) :: .int (zi x) :: S) M K = Ev d mi (pc + 1) L (.int (zi (x - y)) :: S) M K := by
  rw [← zi_sub]; exact ev_n h rfl
theorem ev_imul {l : Nat} {x y : Int} (h : zI mi pc = some (.imul, l)) : Ev d mi pc L (.int (zi y) :: .int (zi x) :: S) M K = Ev d mi (pc + 1) L (.int (zi (x * y)) :: S) M K := by
  rw [← zi_mul]; exact ev_n h rfl
theorem ev_ineg {l : Nat} {x : Int} (h : zI mi pc = some (.ineg, l)) : Ev d mi pc L (.int (zi x) :: S) M K = Ev d mi (pc + 1) L (.int (zi (-x)) :: S) M K := by
  rw [← zi_neg]; exact ev_n h rfl
theorem ev_idiv {l : Nat} {x y : Int} (h : zI mi pc = some (.idiv, l)) (c : -2147483648 ≤ x ∧ x < 2147483648 ∧ 0 < y ∧ y < 2147483648) : Ev d mi pc L (.int (zi y) :: .int (zi x) :: S) M K = Ev d mi (pc + 1) L (.int (zi (x.tdiv y)) :: S) M K := by
  rw [← zi_div c]
  refine ev_n h ?_
  have h0 : ¬ zi y = 0 := fun q => by
    have := (zi_eq (x := y) (y := 0) (by omega)).mp q
    omega
  show (if zi y = 0 then none else _) = _
  rw [if_neg h0]
theorem ev_irem {l : Nat} {x y : Int} (h : zI mi pc = some (.irem, l)) (c : -2147483648 ≤ x ∧ x < 2147483648 ∧ 0 < y ∧ y < 2147483648) : Ev d mi pc L (.int (zi y) :: .int (zi x) :: S) M K = Ev d mi (pc + 1) L (.int (zi (x.tmod y)) :: S) M K := by
  rw [← zi_rem c]
  refine ev_n h ?_
  have h0 : ¬ zi y = 0 := fun q => by
    have := (zi_eq (x := y) (y := 0) (by omega)).mp q
    omega
  show (if zi y = 0 then none else _) = _
  rw [if_neg h0]
theorem ev_ladd {l : Nat} {x y : Int} (h : zI mi pc = some (.ladd, l)) : Ev d mi pc L (.long (zl y) :: .long (zl x) :: S) M K = Ev d mi (pc + 1) L (.long (zl (x + y)) :: S) M K := by
  rw [← zl_add]; exact ev_n h rfl
theorem ev_lmul {l : Nat} {x y : Int} (h : zI mi pc = some (.lmul, l)) : Ev d mi pc L (.long (zl y) :: .long (zl x) :: S) M K = Ev d mi (pc + 1) L (.long (zl (x * y)) :: S) M K := by
  rw [← zl_mul]; exact ev_n h rfl
theorem zl_toInt {x : Int} (h1 : -9223372036854775808 ≤ x) (h2 : x < 9223372036854775808) : (zl x).toInt = x := Int64.toInt_ofInt_of_le (by simpa using h1) (by simpa using h2)
theorem ev_i2l {l : Nat} {x : Int} (h : zI mi pc = some (.i2l, l)) (c : -2147483648 ≤ x ∧ x < 2147483648) : Ev d mi pc L (.int (zi x) :: S) M K = Ev d mi (pc + 1) L (.long (zl x) :: S) M K := by
  have e : (zi x).toInt64 = zl x := by
    apply Int64.toInt_inj.mp
    rw [Int32.toInt_toInt64, zi_toInt c.1 c.2, zl_toInt (by omega) (by omega)]
  rw [← e]; exact ev_n h rfl
theorem ev_lcmp {l : Nat} {x y : Int} (h : zI mi pc = some (.lcmp, l)) (c : -9223372036854775808 ≤ x ∧ x < 9223372036854775808 ∧ -9223372036854775808 ≤ y ∧ y < 9223372036854775808) : Ev d mi pc L (.long (zl y) :: .long (zl x) :: S) M K = Ev d mi (pc + 1) L (.int (zi (if y < x then 1 else if x = y then 0 else -1)) :: S) M K := by
  have e : lg_cmp (zl x) (zl y) = zi (if y < x then 1 else if x = y then 0 else -1) := by
    have h1 : zl y < zl x ↔ y < x := by rw [Int64.lt_iff_toInt_lt, zl_toInt c.1 c.2.1, zl_toInt c.2.2.1 c.2.2.2]
    have h2 : zl x = zl y ↔ x = y := by rw [← Int64.toInt_inj, zl_toInt c.1 c.2.1, zl_toInt c.2.2.1 c.2.2.2]
    unfold lg_cmp
    by_cases q1 : y < x
    · rw [if_pos q1, if_pos (h1.mpr q1)]; rfl
    · rw [if_neg q1, if_neg (fun q => q1 (h1.mp q))]
      by_cases q2 : x = y
      · rw [if_pos q2, if_pos (h2.mpr q2)]; rfl
      · rw [if_neg q2, if_neg (fun q => q2 (h2.mp q))]; rfl
  rw [← e]; exact ev_n h rfl
/-- a bitwise operation: the numbers as they are -/
theorem ev_iand {l : Nat} {x y : Int32} (h : zI mi pc = some (.iand, l)) : Ev d mi pc L (.int y :: .int x :: S) M K = Ev d mi (pc + 1) L (.int (x &&& y) :: S) M K := ev_n h rfl
theorem ev_ior {l : Nat} {x y : Int32} (h : zI mi pc = some (.ior, l)) : Ev d mi pc L (.int y :: .int x :: S) M K = Ev d mi (pc + 1) L (.int (x ||| y) :: S) M K := ev_n h rfl
theorem ev_ixor {l : Nat} {x y : Int32} (h : zI mi pc = some (.ixor, l)) : Ev d mi pc L (.int y :: .int x :: S) M K = Ev d mi (pc + 1) L (.int (x ^^^ y) :: S) M K := ev_n h rfl
theorem ev_ishl {l : Nat} {x y : Int32} (h : zI mi pc = some (.ishl, l)) : Ev d mi pc L (.int y :: .int x :: S) M K = Ev d mi (pc + 1) L (.int (x <<< (y &&& 31)) :: S) M K := ev_n h rfl
theorem ev_ishr {l : Nat} {x y : Int32} (h : zI mi pc = some (.ishr, l)) : Ev d mi pc L (.int y :: .int x :: S) M K = Ev d mi (pc + 1) L (.int (x >>> (y &&& 31)) :: S) M K := ev_n h rfl
-- branches
def zCmp (cd : Jvm.ClassFile.Cond) (pc tgt : Nat) (L : zL) (S : List Value) (M : zM) (x y : Int32) : zO := match cd with
    | .eq => if x = y then zN tgt L S M else zN (pc + 3) L S M
    | .ne => if x = y then zN (pc + 3) L S M else zN tgt L S M
    | .lt => if x < y then zN tgt L S M else zN (pc + 3) L S M
    | .ge => if x < y then zN (pc + 3) L S M else zN tgt L S M
    | .gt => if y < x then zN tgt L S M else zN (pc + 3) L S M
    | .le => if y < x then zN (pc + 3) L S M else zN tgt L S M
theorem ev_cm {cd : Jvm.ClassFile.Cond} {off : Int} {l tgt : Nat} {x y : Int32} (h : zI mi pc = some (.if_icmp cd off, l)) (h0 : (pc : Int) + off = (tgt : Int)) : Ev d mi pc L (.int y :: .int x :: S) M K = zGo (zC d) (Ev d mi) K (zCmp cd pc tgt L S M x y) := by
  rw [ev_of h]
  show zGo _ _ _ (if 0 ≤ (pc : Int) + off then _ else none) = _
  rw [if_pos (by omega)]
  have e : ((pc : Int) + off).toNat = tgt := by omega
  rw [e]
  cases cd <;> rfl
theorem ev_if {cd : Jvm.ClassFile.Cond} {off : Int} {l tgt : Nat} {x : Int32} (h : zI mi pc = some (.ifCond cd off, l)) (h0 : (pc : Int) + off = (tgt : Int)) : Ev d mi pc L (.int x :: S) M K = zGo (zC d) (Ev d mi) K (zCmp cd pc tgt L S M x 0) := by
  rw [ev_of h]
  show zGo _ _ _ (if 0 ≤ (pc : Int) + off then _ else none) = _
  rw [if_pos (by omega)]
  have e : ((pc : Int) + off).toNat = tgt := by omega
  rw [e]
  cases cd <;> rfl
theorem ev_cm_eq_t {off : Int} {l tgt : Nat} {x y : Int} (h : zI mi pc = some (.if_icmp .eq off, l)) (h0 : (pc : Int) + off = (tgt : Int)) (c : -2147483648 ≤ x ∧ x < 2147483648 ∧ -2147483648 ≤ y ∧ y < 2147483648 ∧ x = y) : Ev d mi pc L (.int (zi y) :: .int (zi x) :: S) M K = Ev d mi tgt L S M K := by
  rw [ev_cm h h0]
  unfold zCmp
  dsimp only
  rw [if_pos ((zi_eq (x := x) (y := y) ⟨c.1, c.2.1, c.2.2.1, c.2.2.2.1⟩).mpr c.2.2.2.2)]
  rfl
theorem ev_if_eq_t {off : Int} {l tgt : Nat} {x : Int} (h : zI mi pc = some (.ifCond .eq off, l)) (h0 : (pc : Int) + off = (tgt : Int)) (c : -2147483648 ≤ x ∧ x < 2147483648 ∧ x = 0) : Ev d mi pc L (.int (zi x) :: S) M K = Ev d mi tgt L S M K := by
  rw [ev_if h h0]
  unfold zCmp
  dsimp only
  have e : (zi 0 : Int32) = 0 := by decide
  rw [if_pos (by rw [← e]; exact (zi_eq (x := x) (y := 0) ⟨c.1, c.2.1, by decide, by decide⟩).mpr c.2.2)]
  rfl
theorem ev_cm_eq_f {off : Int} {l tgt : Nat} {x y : Int} (h : zI mi pc = some (.if_icmp .eq off, l)) (h0 : (pc : Int) + off = (tgt : Int)) (c : -2147483648 ≤ x ∧ x < 2147483648 ∧ -2147483648 ≤ y ∧ y < 2147483648 ∧ ¬ x = y) : Ev d mi pc L (.int (zi y) :: .int (zi x) :: S) M K = Ev d mi (pc + 3) L S M K := by
  rw [ev_cm h h0]
  unfold zCmp
  dsimp only
  rw [if_neg (fun q => c.2.2.2.2 ((zi_eq (x := x) (y := y) ⟨c.1, c.2.1, c.2.2.1, c.2.2.2.1⟩).mp q))]
  rfl
theorem ev_if_eq_f {off : Int} {l tgt : Nat} {x : Int} (h : zI mi pc = some (.ifCond .eq off, l)) (h0 : (pc : Int) + off = (tgt : Int)) (c : -2147483648 ≤ x ∧ x < 2147483648 ∧ ¬ x = 0) : Ev d mi pc L (.int (zi x) :: S) M K = Ev d mi (pc + 3) L S M K := by
  rw [ev_if h h0]
  unfold zCmp
  dsimp only
  have e : (zi 0 : Int32) = 0 := by decide
  rw [if_neg (by rw [← e]; exact fun q => c.2.2 ((zi_eq (x := x) (y := 0) ⟨c.1, c.2.1, by decide, by decide⟩).mp q))]
  rfl
theorem ev_cm_ne_t {off : Int} {l tgt : Nat} {x y : Int} (h : zI mi pc = some (.if_icmp .ne off, l)) (h0 : (pc : Int) + off = (tgt : Int)) (c : -2147483648 ≤ x ∧ x < 2147483648 ∧ -2147483648 ≤ y ∧ y < 2147483648 ∧ ¬ x = y) : Ev d mi pc L (.int (zi y) :: .int (zi x) :: S) M K = Ev d mi tgt L S M K := by
  rw [ev_cm h h0]
  unfold zCmp
  dsimp only
  rw [if_neg (fun q => c.2.2.2.2 ((zi_eq (x := x) (y := y) ⟨c.1, c.2.1, c.2.2.1, c.2.2.2.1⟩).mp q))]
  rfl
theorem ev_if_ne_t {off : Int} {l tgt : Nat} {x : Int} (h : zI mi pc = some (.ifCond .ne off, l)) (h0 : (pc : Int) + off = (tgt : Int)) (c : -2147483648 ≤ x ∧ x < 2147483648 ∧ ¬ x = 0) : Ev d mi pc L (.int (zi x) :: S) M K = Ev d mi tgt L S M K := by
  rw [ev_if h h0]
  unfold zCmp
  dsimp only
  have e : (zi 0 : Int32) = 0 := by decide
  rw [if_neg (by rw [← e]; exact fun q => c.2.2 ((zi_eq (x := x) (y := 0) ⟨c.1, c.2.1, by decide, by decide⟩).mp q))]
  rfl
theorem ev_cm_ne_f {off : Int} {l tgt : Nat} {x y : Int} (h : zI mi pc = some (.if_icmp .ne off, l)) (h0 : (pc : Int) + off = (tgt : Int)) (c : -2147483648 ≤ x ∧ x < 2147483648 ∧ -2147483648 ≤ y ∧ y < 2147483648 ∧ x = y) : Ev d mi pc L (.int (zi y) :: .int (zi x) :: S) M K = Ev d mi (pc + 3) L S M K := by
  rw [ev_cm h h0]
  unfold zCmp
  dsimp only
  rw [if_pos ((zi_eq (x := x) (y := y) ⟨c.1, c.2.1, c.2.2.1, c.2.2.2.1⟩).mpr c.2.2.2.2)]
  rfl
theorem ev_if_ne_f {off : Int} {l tgt : Nat} {x : Int} (h : zI mi pc = some (.ifCond .ne off, l)) (h0 : (pc : Int) + off = (tgt : Int)) (c : -2147483648 ≤ x ∧ x < 2147483648 ∧ x = 0) : Ev d mi pc L (.int (zi x) :: S) M K = Ev d mi (pc + 3) L S M K := by
  rw [ev_if h h0]
  unfold zCmp
  dsimp only
  have e : (zi 0 : Int32) = 0 := by decide
  rw [if_pos (by rw [← e]; exact (zi_eq (x := x) (y := 0) ⟨c.1, c.2.1, by decide, by decide⟩).mpr c.2.2)]
  rfl
theorem ev_cm_lt_t {off : Int} {l tgt : Nat} {x y : Int} (h : zI mi pc = some (.if_icmp .lt off, l)) (h0 : (pc : Int) + off = (tgt : Int)) (c : -2147483648 ≤ x ∧ x < 2147483648 ∧ -2147483648 ≤ y ∧ y < 2147483648 ∧ x < y) : Ev d mi pc L (.int (zi y) :: .int (zi x) :: S) M K = Ev d mi tgt L S M K := by
  rw [ev_cm h h0]
  unfold zCmp
  dsimp only
  rw [if_pos ((zi_lt (x := x) (y := y) ⟨c.1, c.2.1, c.2.2.1, c.2.2.2.1⟩).mpr c.2.2.2.2)]
  rfl
theorem ev_if_lt_t {off : Int} {l tgt : Nat} {x : Int} (h : zI mi pc = some (.ifCond .lt off, l)) (h0 : (pc : Int) + off = (tgt : Int)) (c : -2147483648 ≤ x ∧ x < 2147483648 ∧ x < 0) : Ev d mi pc L (.int (zi x) :: S) M K = Ev d mi tgt L S M K := by
  rw [ev_if h h0]
  unfold zCmp
  dsimp only
  have e : (zi 0 : Int32) = 0 := by decide
  rw [if_pos (by rw [← e]; exact (zi_lt (x := x) (y := 0) ⟨c.1, c.2.1, by decide, by decide⟩).mpr c.2.2)]
  rfl
theorem ev_cm_lt_f {off : Int} {l tgt : Nat} {x y : Int} (h : zI mi pc = some (.if_icmp .lt off, l)) (h0 : (pc : Int) + off = (tgt : Int)) (c : -2147483648 ≤ x ∧ x < 2147483648 ∧ -2147483648 ≤ y ∧ y < 2147483648 ∧ ¬ x < y) : Ev d mi pc L (.int (zi y) :: .int (zi x) :: S) M K = Ev d mi (pc + 3) L S M K := by
  rw [ev_cm h h0]
  unfold zCmp
  dsimp only
  rw [if_neg (fun q => c.2.2.2.2 ((zi_lt (x := x) (y := y) ⟨c.1, c.2.1, c.2.2.1, c.2.2.2.1⟩).mp q))]
  rfl
theorem ev_if_lt_f {off : Int} {l tgt : Nat} {x : Int} (h : zI mi pc = some (.ifCond .lt off, l)) (h0 : (pc : Int) + off = (tgt : Int)) (c : -2147483648 ≤ x ∧ x < 2147483648 ∧ ¬ x < 0) : Ev d mi pc L (.int (zi x) :: S) M K = Ev d mi (pc + 3) L S M K := by
  rw [ev_if h h0]
  unfold zCmp
  dsimp only
  have e : (zi 0 : Int32) = 0 := by decide
  rw [if_neg (by rw [← e]; exact fun q => c.2.2 ((zi_lt (x := x) (y := 0) ⟨c.1, c.2.1, by decide, by decide⟩).mp q))]
  rfl
theorem ev_cm_ge_t {off : Int} {l tgt : Nat} {x y : Int} (h : zI mi pc = some (.if_icmp .ge off, l)) (h0 : (pc : Int) + off = (tgt : Int)) (c : -2147483648 ≤ x ∧ x < 2147483648 ∧ -2147483648 ≤ y ∧ y < 2147483648 ∧ ¬ x < y) : Ev d mi pc L (.int (zi y) :: .int (zi x) :: S) M K = Ev d mi tgt L S M K := by
  rw [ev_cm h h0]
  unfold zCmp
  dsimp only
  rw [if_neg (fun q => c.2.2.2.2 ((zi_lt (x := x) (y := y) ⟨c.1, c.2.1, c.2.2.1, c.2.2.2.1⟩).mp q))]
  rfl
theorem ev_if_ge_t {off : Int} {l tgt : Nat} {x : Int} (h : zI mi pc = some (.ifCond .ge off, l)) (h0 : (pc : Int) + off = (tgt : Int)) (c : -2147483648 ≤ x ∧ x < 2147483648 ∧ ¬ x < 0) : Ev d mi pc L (.int (zi x) :: S) M K = Ev d mi tgt L S M K := by
  rw [ev_if h h0]
  unfold zCmp
  dsimp only
  have e : (zi 0 : Int32) = 0 := by decide
  rw [if_neg (by rw [← e]; exact fun q => c.2.2 ((zi_lt (x := x) (y := 0) ⟨c.1, c.2.1, by decide, by decide⟩).mp q))]
  rfl
theorem ev_cm_ge_f {off : Int} {l tgt : Nat} {x y : Int} (h : zI mi pc = some (.if_icmp .ge off, l)) (h0 : (pc : Int) + off = (tgt : Int)) (c : -2147483648 ≤ x ∧ x < 2147483648 ∧ -2147483648 ≤ y ∧ y < 2147483648 ∧ x < y) : Ev d mi pc L (.int (zi y) :: .int (zi x) :: S) M K = Ev d mi (pc + 3) L S M K := by
  rw [ev_cm h h0]
  unfold zCmp
  dsimp only
  rw [if_pos ((zi_lt (x := x) (y := y) ⟨c.1, c.2.1, c.2.2.1, c.2.2.2.1⟩).mpr c.2.2.2.2)]
  rfl
theorem ev_if_ge_f {off : Int} {l tgt : Nat} {x : Int} (h : zI mi pc = some (.ifCond .ge off, l)) (h0 : (pc : Int) + off = (tgt : Int)) (c : -2147483648 ≤ x ∧ x < 2147483648 ∧ x < 0) : Ev d mi pc L (.int (zi x) :: S) M K = Ev d mi (pc + 3) L S M K := by
  rw [ev_if h h0]
  unfold zCmp
  dsimp only
  have e : (zi 0 : Int32) = 0 := by decide
  rw [if_pos (by rw [← e]; exact (zi_lt (x := x) (y := 0) ⟨c.1, c.2.1, by decide, by decide⟩).mpr c.2.2)]
  rfl
theorem ev_cm_gt_t {off : Int} {l tgt : Nat} {x y : Int} (h : zI mi pc = some (.if_icmp .gt off, l)) (h0 : (pc : Int) + off = (tgt : Int)) (c : -2147483648 ≤ x ∧ x < 2147483648 ∧ -2147483648 ≤ y ∧ y < 2147483648 ∧ y < x) : Ev d mi pc L (.int (zi y) :: .int (zi x) :: S) M K = Ev d mi tgt L S M K := by
  rw [ev_cm h h0]
  unfold zCmp
  dsimp only
  rw [if_pos ((zi_lt (x := y) (y := x) ⟨c.2.2.1, c.2.2.2.1, c.1, c.2.1⟩).mpr c.2.2.2.2)]
  rfl
theorem ev_if_gt_t {off : Int} {l tgt : Nat} {x : Int} (h : zI mi pc = some (.ifCond .gt off, l)) (h0 : (pc : Int) + off = (tgt : Int)) (c : -2147483648 ≤ x ∧ x < 2147483648 ∧ 0 < x) : Ev d mi pc L (.int (zi x) :: S) M K = Ev d mi tgt L S M K := by
  rw [ev_if h h0]
  unfold zCmp
  dsimp only
  have e : (zi 0 : Int32) = 0 := by decide
  rw [if_pos (by rw [← e]; exact (zi_lt (x := 0) (y := x) ⟨by decide, by decide, c.1, c.2.1⟩).mpr c.2.2)]
  rfl
theorem ev_cm_gt_f {off : Int} {l tgt : Nat} {x y : Int} (h : zI mi pc = some (.if_icmp .gt off, l)) (h0 : (pc : Int) + off = (tgt : Int)) (c : -2147483648 ≤ x ∧ x < 2147483648 ∧ -2147483648 ≤ y ∧ y < 2147483648 ∧ ¬ y < x) : Ev d mi pc L (.int (zi y) :: .int (zi x) :: S) M K = Ev d mi (pc + 3) L S M K := by
  rw [ev_cm h h0]
  unfold zCmp
  dsimp only
  rw [if_neg (fun q => c.2.2.2.2 ((zi_lt (x := y) (y := x) ⟨c.2.2.1, c.2.2.2.1, c.1, c.2.1⟩).mp q))]
  rfl
theorem ev_if_gt_f {off : Int} {l tgt : Nat} {x : Int} (h : zI mi pc = some (.ifCond .gt off, l)) (h0 : (pc : Int) + off = (tgt : Int)) (c : -2147483648 ≤ x ∧ x < 2147483648 ∧ ¬ 0 < x) : Ev d mi pc L (.int (zi x) :: S) M K = Ev d mi (pc + 3) L S M K := by
  rw [ev_if h h0]
  unfold zCmp
  dsimp only
  have e : (zi 0 : Int32) = 0 := by decide
  rw [if_neg (by rw [← e]; exact fun q => c.2.2 ((zi_lt (x := 0) (y := x) ⟨by decide, by decide, c.1, c.2.1⟩).mp q))]
  rfl
theorem ev_cm_le_t {off : Int} {l tgt : Nat} {x y : Int} (h : zI mi pc = some (.if_icmp .le off, l)) (h0 : (pc : Int) + off = (tgt : Int)) (c : -2147483648 ≤ x ∧ x < 2147483648 ∧ -2147483648 ≤ y ∧ y < 2147483648 ∧ ¬ y < x) : Ev d mi pc L (.int (zi y) :: .int (zi x) :: S) M K = Ev d mi tgt L S M K := by
  rw [ev_cm h h0]
  unfold zCmp
  dsimp only
  rw [if_neg (fun q => c.2.2.2.2 ((zi_lt (x := y) (y := x) ⟨c.2.2.1, c.2.2.2.1, c.1, c.2.1⟩).mp q))]
  rfl
theorem ev_if_le_t {off : Int} {l tgt : Nat} {x : Int} (h : zI mi pc = some (.ifCond .le off, l)) (h0 : (pc : Int) + off = (tgt : Int)) (c : -2147483648 ≤ x ∧ x < 2147483648 ∧ ¬ 0 < x) : Ev d mi pc L (.int (zi x) :: S) M K = Ev d mi tgt L S M K := by
  rw [ev_if h h0]
  unfold zCmp
  dsimp only
  have e : (zi 0 : Int32) = 0 := by decide
  rw [if_neg (by rw [← e]; exact fun q => c.2.2 ((zi_lt (x := 0) (y := x) ⟨by decide, by decide, c.1, c.2.1⟩).mp q))]
  rfl
theorem ev_cm_le_f {off : Int} {l tgt : Nat} {x y : Int} (h : zI mi pc = some (.if_icmp .le off, l)) (h0 : (pc : Int) + off = (tgt : Int)) (c : -2147483648 ≤ x ∧ x < 2147483648 ∧ -2147483648 ≤ y ∧ y < 2147483648 ∧ y < x) : Ev d mi pc L (.int (zi y) :: .int (zi x) :: S) M K = Ev d mi (pc + 3) L S M K := by
  rw [ev_cm h h0]
  unfold zCmp
  dsimp only
  rw [if_pos ((zi_lt (x := y) (y := x) ⟨c.2.2.1, c.2.2.2.1, c.1, c.2.1⟩).mpr c.2.2.2.2)]
  rfl
theorem ev_if_le_f {off : Int} {l tgt : Nat} {x : Int} (h : zI mi pc = some (.ifCond .le off, l)) (h0 : (pc : Int) + off = (tgt : Int)) (c : -2147483648 ≤ x ∧ x < 2147483648 ∧ 0 < x) : Ev d mi pc L (.int (zi x) :: S) M K = Ev d mi (pc + 3) L S M K := by
  rw [ev_if h h0]
  unfold zCmp
  dsimp only
  have e : (zi 0 : Int32) = 0 := by decide
  rw [if_pos (by rw [← e]; exact (zi_lt (x := 0) (y := x) ⟨by decide, by decide, c.1, c.2.1⟩).mpr c.2.2)]
  rfl
theorem ev_goto {off : Int} {l tgt : Nat} (h : zI mi pc = some (.goto off, l)) (h0 : (pc : Int) + off = (tgt : Int)) : Ev d mi pc L S M K = Ev d mi tgt L S M K := by
  refine ev_n h ?_
  show (if 0 ≤ (pc : Int) + off then _ else none) = _
  rw [if_pos (by omega)]
  have e : ((pc : Int) + off).toNat = tgt := by omega
  rw [e]
theorem ev_swIn {l tgt : Nat} {dflt lo hi off : Int} {offs : Array Int} {x : Int} (h : zI mi pc = some (.tableswitch dflt lo hi offs, l)) (c : -2147483648 ≤ x ∧ x < 2147483648) (h1 : ¬ (x < lo ∨ hi < x)) (ho : offs[(x - lo).toNat]? = some off) (h0 : (pc : Int) + off = (tgt : Int)) : Ev d mi pc L (.int (zi x) :: S) M K = Ev d mi tgt L S M K := by
  refine ev_n h ?_
  show (if (zi x).toInt < lo ∨ hi < (zi x).toInt then _ else (match offs[((zi x).toInt - lo).toNat]? with | some off => zJ pc off L S M | none => none)) = _
  rw [zi_toInt c.1 c.2, if_neg h1, ho]
  show (if 0 ≤ (pc : Int) + off then _ else none) = _
  rw [if_pos (by omega)]
  have e : ((pc : Int) + off).toNat = tgt := by omega
  rw [e]
theorem ev_swOut {l tgt : Nat} {dflt lo hi : Int} {offs : Array Int} {x : Int} (h : zI mi pc = some (.tableswitch dflt lo hi offs, l)) (c : -2147483648 ≤ x ∧ x < 2147483648) (h1 : x < lo ∨ hi < x) (h0 : (pc : Int) + dflt = (tgt : Int)) : Ev d mi pc L (.int (zi x) :: S) M K = Ev d mi tgt L S M K := by
  refine ev_n h ?_
  show (if (zi x).toInt < lo ∨ hi < (zi x).toInt then zJ pc dflt L S M else _) = _
  rw [zi_toInt c.1 c.2, if_pos h1]
  show (if 0 ≤ (pc : Int) + dflt then _ else none) = _
  rw [if_pos (by omega)]
  have e : ((pc : Int) + dflt).toNat = tgt := by omega
  rw [e]
theorem ev_iinc {l i : Nat} {n x : Int} (h : zI mi pc = some (.iinc i n, l)) (hL : L[i]? = some (some (.int (zi x)))) : Ev d mi pc L S M K = Ev d mi (pc + 3) (L.set i (some (.int (zi (x + n))))) S M K := by
  refine ev_n h ?_
  show (match L[i]? with | some (some (.int x)) => if i < L.length then zN (pc + 3) (L.set i (some (.int (x + Int32.ofInt n)))) S M else none | _ => none) = _
  rw [hL]
  dsimp only
  rw [if_pos (List.getElem?_eq_some_iff.mp hL).1, ← zi_add]
  rfl
/-- a value that memory gives, then on -/
def zPa (d mi q : Nat) (L : zL) (S : List Value) (M : zM) (K : zK) : Option Value → Prop
  | some v => Ev d mi q L (v :: S) M K
  | none => False
def zPn (d mi q : Nat) (L : zL) (S : List Value) (K : zK) : Option zM → Prop
  | some M => Ev d mi q L S M K
  | none => False
theorem zPa_some {q : Nat} {v : Value} : zPa d mi q L S M K (some v) = Ev d mi q L (v :: S) M K := rfl
theorem zPn_some {q : Nat} : zPn d mi q L S K (some M) = Ev d mi q L S M K := rfl
theorem ev_pa {x : Instr × Nat} {q : Nat} {L' : zL} {S' : List Value} {o : Option Value} (h : zI mi pc = some x) (hs : zStep (zow mi) (zrt mi) (zkd mi == 2) x.1 pc L S M = zPv q L' S' M o) : Ev d mi pc L S M K = zPa d mi q L' S' M K o := by
  rw [ev_of h, hs]
  cases o <;> rfl
theorem ev_pn {x : Instr × Nat} {q : Nat} {L' : zL} {S' : List Value} {o : Option zM} (h : zI mi pc = some x) (hs : zStep (zow mi) (zrt mi) (zkd mi == 2) x.1 pc L S M = zPm q L' S' o) : Ev d mi pc L S M K = zPn d mi q L' S' K o := by
  rw [ev_of h, hs]
  cases o <;> rfl
theorem ev_get {l ix k0 ci k a : Nat} (h : zI mi pc = some (.getfield ix, l)) (hc : zCp (zow mi) ix = some (k0, ci, k)) (h0 : k0 = 0 ∨ k0 = 1) : Ev d mi pc L (.ref a :: S) M K = zPa d mi (pc + 3) L S M K (zGf (zget M a) ci k) := by
  refine ev_pa h ?_
  show (match zCp (zow mi) ix with | some (0, ci, k) => zPv (pc + 3) L S M (zGf (zget M a) ci k) | some (1, ci, k) => zPv (pc + 3) L S M (zGf (zget M a) ci k) | _ => none) = _
  rw [hc]
  rcases h0 with rfl | rfl <;> rfl
theorem ev_put {l ix ci k a : Nat} {v : Value} (h : zI mi pc = some (.putfield ix, l)) (hc : zCp (zow mi) ix = some (0, ci, k)) (hf : zFin ci k = true → ((zkd mi == 2) = true ∧ zow mi = ci)) : Ev d mi pc L (v :: .ref a :: S) M K = zPn d mi (pc + 3) L S K (zPf M a (zget M a) ci k v) := by
  refine ev_pn h ?_
  show (match zCp (zow mi) ix with | some (0, ci, k) => if (zFin ci k = true → ((zkd mi == 2) = true ∧ zow mi = ci)) then zPm (pc + 3) L S (zPf M a (zget M a) ci k v) else none | some (1, ci, k) => if zFin ci k = true then none else zPm (pc + 3) L S (zPf M a (zget M a) ci k v) | _ => none) = _
  rw [hc]
  exact if_pos hf
theorem ev_putN {l ix ci k a : Nat} {v : Value} (h : zI mi pc = some (.putfield ix, l)) (hc : zCp (zow mi) ix = some (1, ci, k)) (hf : zFin ci k = false) : Ev d mi pc L (v :: .ref a :: S) M K = zPn d mi (pc + 3) L S K (zPf M a (zget M a) ci k v) := by
  refine ev_pn h ?_
  show (match zCp (zow mi) ix with | some (0, ci, k) => if (zFin ci k = true → ((zkd mi == 2) = true ∧ zow mi = ci)) then zPm (pc + 3) L S (zPf M a (zget M a) ci k v) else none | some (1, ci, k) => if zFin ci k = true then none else zPm (pc + 3) L S (zPf M a (zget M a) ci k v) | _ => none) = _
  rw [hc]
  exact if_neg (by rw [hf]; decide)
theorem ev_gets {l ix : Nat} {y : Nat × Nat} (h : zI mi pc = some (.getstatic ix, l)) (hc : zCp (zow mi) ix = some (11, y)) : Ev d mi pc L S M K = Ev d mi (pc + 3) L (.ref M.1 :: S) M K := by
  refine ev_n h ?_
  show (match zCp (zow mi) ix with | some (11, _, _) => zN (pc + 3) L (.ref M.1 :: S) M | _ => none) = _
  rw [hc]
  rfl
theorem ev_iald {l a : Nat} {i : Int32} (h : zI mi pc = some (.iaload, l)) : Ev d mi pc L (.int i :: .ref a :: S) M K = zPa d mi (pc + 1) L S M K (zAld 10 (zget M a) i) := ev_pa h rfl
theorem ev_bald {l a : Nat} {i : Int32} (h : zI mi pc = some (.baload, l)) : Ev d mi pc L (.int i :: .ref a :: S) M K = zPa d mi (pc + 1) L S M K (zAld 11 (zget M a) i) := ev_pa h rfl
theorem ev_aald {l a : Nat} {i : Int32} (h : zI mi pc = some (.aaload, l)) : Ev d mi pc L (.int i :: .ref a :: S) M K = zPa d mi (pc + 1) L S M K (zAld 12 (zget M a) i) := ev_pa h rfl
theorem ev_iast {l a : Nat} {i : Int32} {v : Value} (h : zI mi pc = some (.iastore, l)) : Ev d mi pc L (v :: .int i :: .ref a :: S) M K = zPn d mi (pc + 1) L S K (zAst M a (zget M a) i v 10) := ev_pn h rfl
theorem ev_bast {l a : Nat} {i : Int32} {v : Value} (h : zI mi pc = some (.bastore, l)) : Ev d mi pc L (v :: .int i :: .ref a :: S) M K = zPn d mi (pc + 1) L S K (zAst M a (zget M a) i v 11) := ev_pn h rfl
theorem ev_aast {l a : Nat} {i : Int32} {v : Value} (h : zI mi pc = some (.aastore, l)) : Ev d mi pc L (v :: .int i :: .ref a :: S) M K = zPn d mi (pc + 1) L S K (zAst M a (zget M a) i v 12) := ev_pn h rfl
theorem ev_alen {l a : Nat} (h : zI mi pc = some (.arraylength, l)) : Ev d mi pc L (.ref a :: S) M K = zPa d mi (pc + 1) L S M K (zAlen (zget M a)) := ev_pa h rfl
/-- a row of ints or booleans -/
def zA (t n : Nat) (g : Int → Int) : zE := .inl (t, n, .inl (fun j : Nat => if j < n then zi (g j) else 0))
theorem zA_zero {t n : Nat} : zA t n (fun _ => 0) = .inl (t, n, .inl (fun _ => 0)) := by
  unfold zA
  congr 4
  funext j
  split <;> rfl
/-- a row is what stands in it -/
theorem zA_ext {t n : Nat} {g g' : Int → Int} (h : ∀ j : Int, 0 ≤ j → j < n → g j = g' j) : zA t n g = zA t n g' := by
  unfold zA
  congr 4
  funext j
  split
  · rw [h j (by omega) (by omega)]
  · rfl
/-- a row that is only read -/
def zA3 (n : Nat) (f : Nat → Int32) : zE := .inl (13, n, .inl f)
/-- a row of stones -/
def zAr (n : Nat) (f : Int → Option Nat) : zE := .inl (12, n, .inr (.inr (.inr (.inr (fun j : Nat => f j)))))
def zOb (ci : Nat) (fs : List Value) : zE := .inr (ci, fs)
def zu (g : Int → Int) (i v : Int) : Int → Int := fun j => if j = i then v else g j
theorem ev_newI {l : Nat} {n : Int} (h : zI mi pc = some (.newarray .int, l)) (c : 0 ≤ n ∧ n ≤ 100000) : Ev d mi pc L (.int (zi n) :: S) M K = Ev d mi (pc + 2) L (.ref M.2.1 :: S) (znew M n.toNat (zA 10 n.toNat (fun _ => 0))) K := by
  refine ev_n h ?_
  have h1 : ¬ zi n < 0 := fun q => by have := (zi_lt (x := n) (y := 0) (by omega)).mp q; omega
  have h2 : (zi n).toNatClampNeg = n.toNat := zi_nat c.1 (by omega)
  show (if ¬ zi n < 0 ∧ (zi n).toNatClampNeg ≤ 100000 then _ else none) = _
  rw [h2, if_pos ⟨h1, by omega⟩]
  rw [zA_zero]
theorem ev_newZ {l : Nat} {n : Int} (h : zI mi pc = some (.newarray .boolean, l)) (c : 0 ≤ n ∧ n ≤ 100000) : Ev d mi pc L (.int (zi n) :: S) M K = Ev d mi (pc + 2) L (.ref M.2.1 :: S) (znew M n.toNat (zA 11 n.toNat (fun _ => 0))) K := by
  refine ev_n h ?_
  have h1 : ¬ zi n < 0 := fun q => by have := (zi_lt (x := n) (y := 0) (by omega)).mp q; omega
  have h2 : (zi n).toNatClampNeg = n.toNat := zi_nat c.1 (by omega)
  show (if ¬ zi n < 0 ∧ (zi n).toNatClampNeg ≤ 100000 then _ else none) = _
  rw [h2, if_pos ⟨h1, by omega⟩]
  rw [zA_zero]
theorem ev_anew {l ix y : Nat} {n : Int} (h : zI mi pc = some (.anewarray ix, l)) (hc : zCp (zow mi) ix = some (9, 6, y)) (c : 0 ≤ n ∧ n ≤ 100000) : Ev d mi pc L (.int (zi n) :: S) M K = Ev d mi (pc + 3) L (.ref M.2.1 :: S) (znew M n.toNat (zAr n.toNat (fun _ => none))) K := by
  refine ev_n h ?_
  have h1 : ¬ zi n < 0 := fun q => by have := (zi_lt (x := n) (y := 0) (by omega)).mp q; omega
  have h2 : (zi n).toNatClampNeg = n.toNat := zi_nat c.1 (by omega)
  show (match zCp (zow mi) ix with | some (9, 6, _) => if ¬ zi n < 0 ∧ (zi n).toNatClampNeg ≤ 100000 then zN (pc + 3) L (.ref M.2.1 :: S) (znew M (zi n).toNatClampNeg (.inl (12, (zi n).toNatClampNeg, .inr (.inr (.inr (.inr (fun _ => none))))))) else none | _ => none) = _
  rw [hc, h2]
  show (if ¬ zi n < 0 ∧ n.toNat ≤ 100000 then _ else none) = _
  rw [if_pos ⟨h1, by omega⟩]
  rfl
theorem ev_new {l ix ci N : Nat} {fs : List Value} (h : zI mi pc = some (.new ix, l)) (hc : zCp (zow mi) ix = some (9, ci, N)) (hd : zDf ci = fs) : Ev d mi pc L S M K = Ev d mi (pc + 3) L (.ref M.2.1 :: S) (znew M N (zOb ci fs)) K := by
  refine ev_n h ?_
  subst hd
  show (match zCp (zow mi) ix with | some (9, ci, N) => zN (pc + 3) L (.ref M.2.1 :: S) (znew M N (.inr (ci, zDf ci))) | _ => none) = _
  rw [hc]
  rfl
def zCk (b : Bool) (P : Prop) : Prop := b = true ∧ P
theorem zCk_t {P : Prop} : zCk true P = P := by simp [zCk]
theorem ev_cS {l ix k0 a n : Nat} (h : zI mi pc = some (.invokestatic ix, l)) (hc : zCp (zow mi) ix = some (k0, a, n)) (h0 : k0 = 4 ∨ k0 = 5) (hn : n ≤ S.length ∧ S.length ≤ n + 4) : Ev d mi pc L S M K = zC d a (S.take n).reverse M (zRK d mi (pc + 3) L (S.drop n) K) := by
  rw [ev_of h]
  have e : zStep (zow mi) (zrt mi) (zkd mi == 2) (.invokestatic ix) pc L S M = zCallS (pc + 3) a n L S M := by
    show (match zCp (zow mi) ix with | some (4, a, n) => zCallS (pc + 3) a n L S M | some (5, a, n) => zCallS (pc + 3) a n L S M | _ => none) = _
    rw [hc]
    rcases h0 with rfl | rfl <;> rfl
  rw [e]
  unfold zCallS
  rw [if_pos hn]
  rfl
theorem ev_cV {l ix k0 a n b ci : Nat} {S' : List Value} (h : zI mi pc = some (.invokevirtual ix, l)) (hc : zCp (zow mi) ix = some (k0, a, n)) (h0 : k0 = 2 ∨ k0 = 3) (hd : S.drop n = .ref b :: S') (hn : S'.length ≤ 4 ∧ n ≤ S.length) (hci : zow a = ci) : Ev d mi pc L S M K = zCk (zis (zget M b) ci) (zC d a (.ref b :: (S.take n).reverse) M (zRK d mi (pc + 3) L S' K)) := by
  rw [ev_of h]
  have e : zStep (zow mi) (zrt mi) (zkd mi == 2) (.invokevirtual ix) pc L S M = zCallV (pc + 3) a n L S M true := by
    show (match zCp (zow mi) ix with | some (2, a, n) => zCallV (pc + 3) a n L S M true | some (3, a, n) => zCallV (pc + 3) a n L S M true | _ => none) = _
    rw [hc]
    rcases h0 with rfl | rfl <;> rfl
  rw [e]
  unfold zCallV
  rw [hd]
  dsimp only
  rw [if_pos hn, hci]
  cases hz : zis (zget M b) ci with
  | true =>
    rw [if_pos (fun _ => rfl), zCk_t]
    rfl
  | false =>
    rw [if_neg (by simp)]
    simp [zCk, zGo]
theorem ev_cI {l ix k0 a n b : Nat} {S' : List Value} (h : zI mi pc = some (.invokespecial ix, l)) (hc : zCp (zow mi) ix = some (k0, a, n)) (h0 : k0 = 6 ∨ k0 = 7) (hd : S.drop n = .ref b :: S') (hn : S'.length ≤ 4 ∧ n ≤ S.length) : Ev d mi pc L S M K = zC d a (.ref b :: (S.take n).reverse) M (zRK d mi (pc + 3) L S' K) := by
  rw [ev_of h]
  have e : zStep (zow mi) (zrt mi) (zkd mi == 2) (.invokespecial ix) pc L S M = zCallV (pc + 3) a n L S M false := by
    show (match zCp (zow mi) ix with | some (6, a, n) => zCallV (pc + 3) a n L S M false | some (7, a, n) => zCallV (pc + 3) a n L S M false | some (8, _, _) => zObj (pc + 3) L S M | _ => none) = _
    rw [hc]
    rcases h0 with rfl | rfl <;> rfl
  rw [e]
  unfold zCallV
  rw [hd]
  dsimp only
  rw [if_pos hn, if_pos (fun q => by cases q)]
  rfl
theorem ev_cO {l ix b : Nat} {y : Nat × Nat} (h : zI mi pc = some (.invokespecial ix, l)) (hc : zCp (zow mi) ix = some (8, y)) (hn : S.length ≤ 4) : Ev d mi pc L (.ref b :: S) M K = Ev d mi (pc + 3) L S M K := by
  refine ev_n h ?_
  show (match zCp (zow mi) ix with | some (6, a, n) => zCallV (pc + 3) a n L (.ref b :: S) M false | some (7, a, n) => zCallV (pc + 3) a n L (.ref b :: S) M false | some (8, _, _) => zObj (pc + 3) L (.ref b :: S) M | _ => none) = _
  rw [hc]
  show (if S.length ≤ 4 then _ else none) = _
  rw [if_pos hn]
theorem ev_iret {l : Nat} {x : Int32} (h : zI mi pc = some (.ireturn, l)) (hr : zrt mi = some .int) : Ev d mi pc L [.int x] M K = K (some (.int x)) M := by
  rw [ev_of h]
  show zGo _ _ _ (zRet false (zrt mi) [.int x] M) = _
  rw [hr]
  rfl
theorem ev_zret {l : Nat} {x : Int} (h : zI mi pc = some (.ireturn, l)) (hr : zrt mi = some .boolean) (c : 0 ≤ x ∧ x ≤ 1) : Ev d mi pc L [.int (zi x)] M K = K (some (.int (zi x))) M := by
  rw [ev_of h]
  show zGo _ _ _ (zRet false (zrt mi) [.int (zi x)] M) = _
  rw [hr]
  have e : x = 0 ∨ x = 1 := by omega
  rcases e with rfl | rfl <;> rfl
theorem ev_lret {l : Nat} {x : Int64} (h : zI mi pc = some (.lreturn, l)) (hr : zrt mi = some .long) : Ev d mi pc L [.long x] M K = K (some (.long x)) M := by
  rw [ev_of h]
  show zGo _ _ _ (zRet true (zrt mi) [.long x] M) = _
  rw [hr]
  rfl
theorem ev_vret {l : Nat} (h : zI mi pc = some (.return_, l)) (hr : zrt mi = none) : Ev d mi pc L [] M K = K none M := by
  rw [ev_of h]
  show zGo _ _ _ (zRetV (zrt mi) [] M) = _
  rw [hr]
  rfl
theorem zRK_some {q : Nat} {v : Value} : zRK d mi q L S K (some v) M = Ev d mi q L (v :: S) M K := rfl
theorem zRK_none {q : Nat} : zRK d mi q L S K none M = Ev d mi q L S M K := rfl
end EV
-- memory
theorem zget_set {M : zM} {a b : Nat} {c : zE} : zget (zset M a c) b = if b = a then some c else zget M b := rfl
theorem zget_set_eq {M : zM} {a : Nat} {c : zE} : zget (zset M a c) a = some c := by rw [zget_set, if_pos rfl]
theorem zget_set_ne {M : zM} {a b : Nat} {c : zE} (h : b ≠ a) : zget (zset M a c) b = zget M b := by rw [zget_set, if_neg h]
theorem zset_set {M : zM} {a : Nat} {c c' : zE} : zset (zset M a c) a c' = zset M a c' := by
  unfold zset
  congr 3
  funext j
  by_cases h : j = a <;> simp [h]
theorem zset_same {M : zM} {a : Nat} {c : zE} (h : zget M a = some c) : zset M a c = M := by
  obtain ⟨m1, m2, m3, m4⟩ := M
  unfold zset
  congr 3
  funext j
  by_cases hj : j = a
  · subst hj; rw [if_pos rfl]; exact h.symm
  · rw [if_neg hj]
theorem zset_comm {M : zM} {a b : Nat} {c c' : zE} (h : a ≠ b) : zset (zset M a c) b c' = zset (zset M b c') a c := by
  unfold zset
  congr 3
  funext j
  by_cases h1 : j = a
  · by_cases h2 : j = b
    · exact absurd (h1.symm.trans h2) h
    · simp [h1, h]
  · by_cases h2 : j = b <;> simp [h1, h2, Ne.symm h]
theorem zAld_10 {n : Nat} {g : Int → Int} {i : Int} (c : 0 ≤ i ∧ i < n ∧ n ≤ 100000) : zAld 10 (some (zA 10 n g)) (zi i) = some (.int (zi (g i))) := by
  have h1 : ¬ zi i < 0 := fun q => by have := (zi_lt (x := i) (y := 0) (by omega)).mp q; omega
  have h2 : (zi i).toNatClampNeg = i.toNat := zi_nat c.1 (by omega)
  have h3 : ((i.toNat : Nat) : Int) = i := Int.toNat_of_nonneg c.1
  show (if ((10 : Nat) = 10 ∨ ((10 : Nat) = 10 ∧ (10 : Nat) = 13)) ∧ ¬ (10 : Nat) = 12 then (if ¬ zi i < 0 ∧ (zi i).toNatClampNeg < n then some (Value.int (if (zi i).toNatClampNeg < n then zi (g (zi i).toNatClampNeg) else 0)) else none) else none) = _
  rw [h2, h3, if_pos ⟨Or.inl rfl, by decide⟩, if_pos ⟨h1, by omega⟩, if_pos (by omega)]
theorem zAld_13 {n : Nat} {f : Nat → Int32} {i : Int} (c : 0 ≤ i ∧ i < n ∧ n ≤ 100000) : zAld 10 (some (zA3 n f)) (zi i) = some (.int (f i.toNat)) := by
  have h1 : ¬ zi i < 0 := fun q => by have := (zi_lt (x := i) (y := 0) (by omega)).mp q; omega
  have h2 : (zi i).toNatClampNeg = i.toNat := zi_nat c.1 (by omega)
  show (if ((13 : Nat) = 10 ∨ ((10 : Nat) = 10 ∧ (13 : Nat) = 13)) ∧ ¬ (10 : Nat) = 12 then (if ¬ zi i < 0 ∧ (zi i).toNatClampNeg < n then some (Value.int (f (zi i).toNatClampNeg)) else none) else none) = _
  rw [h2, if_pos ⟨Or.inr ⟨rfl, rfl⟩, by decide⟩, if_pos ⟨h1, by omega⟩]
theorem zAld_11 {n : Nat} {g : Int → Int} {i : Int} (c : 0 ≤ i ∧ i < n ∧ n ≤ 100000) : zAld 11 (some (zA 11 n g)) (zi i) = some (.int (zi (g i))) := by
  have h1 : ¬ zi i < 0 := fun q => by have := (zi_lt (x := i) (y := 0) (by omega)).mp q; omega
  have h2 : (zi i).toNatClampNeg = i.toNat := zi_nat c.1 (by omega)
  have h3 : ((i.toNat : Nat) : Int) = i := Int.toNat_of_nonneg c.1
  show (if ((11 : Nat) = 11 ∨ ((11 : Nat) = 10 ∧ (11 : Nat) = 13)) ∧ ¬ (11 : Nat) = 12 then (if ¬ zi i < 0 ∧ (zi i).toNatClampNeg < n then some (Value.int (if (zi i).toNatClampNeg < n then zi (g (zi i).toNatClampNeg) else 0)) else none) else none) = _
  rw [h2, h3, if_pos ⟨Or.inl rfl, by decide⟩, if_pos ⟨h1, by omega⟩, if_pos (by omega)]
theorem zAld_12 {n : Nat} {f : Int → Option Nat} {i : Int} (c : 0 ≤ i ∧ i < n ∧ n ≤ 100000) : zAld 12 (some (zAr n f)) (zi i) = (f i).map Value.ref := by
  have h1 : ¬ zi i < 0 := fun q => by have := (zi_lt (x := i) (y := 0) (by omega)).mp q; omega
  have h2 : (zi i).toNatClampNeg = i.toNat := zi_nat c.1 (by omega)
  have h3 : ((i.toNat : Nat) : Int) = i := Int.toNat_of_nonneg c.1
  show (if (12 : Nat) = 12 ∧ (12 : Nat) = 12 then (if ¬ zi i < 0 ∧ (zi i).toNatClampNeg < n then (f (zi i).toNatClampNeg).map Value.ref else none) else none) = _
  rw [h2, h3, if_pos ⟨rfl, rfl⟩, if_pos ⟨h1, by omega⟩]
theorem zu_fun {n : Nat} {g : Int → Int} {i v : Int} (h : 0 ≤ i) (h2 : i.toNat < n) : upd (fun j : Nat => if j < n then zi (g j) else 0) i.toNat (zi v) = (fun j : Nat => if j < n then zi (zu g i v j) else 0) := by
  funext j
  unfold upd zu
  by_cases hj : j = i.toNat
  · rw [if_pos hj, if_pos (by omega), if_pos (by omega)]
  · rw [if_neg hj]
    dsimp only
    split
    · rw [if_neg (by omega)]
    · rfl
theorem zAst_10 {M : zM} {a n : Nat} {g : Int → Int} {i v : Int} (c : 0 ≤ i ∧ i < n ∧ n ≤ 100000) : zAst M a (some (zA 10 n g)) (zi i) (.int (zi v)) 10 = some (zset M a (zA 10 n (zu g i v))) := by
  have h1 : ¬ zi i < 0 := fun q => by have := (zi_lt (x := i) (y := 0) (by omega)).mp q; omega
  have h2 : (zi i).toNatClampNeg = i.toNat := zi_nat c.1 (by omega)
  show (if (10 : Nat) = 10 then (if ¬ zi i < 0 ∧ (zi i).toNatClampNeg < n then (if (10 : Nat) = 10 then some (zset M a (.inl (10, n, .inl (upd (fun j : Nat => if j < n then zi (g j) else 0) (zi i).toNatClampNeg (zi v))))) else _) else none) else none) = _
  rw [h2, if_pos rfl, if_pos ⟨h1, by omega⟩, if_pos rfl, zu_fun c.1 (by omega)]
  rfl
theorem zAst_11 {M : zM} {a n : Nat} {g : Int → Int} {i v : Int} (c : 0 ≤ i ∧ i < n ∧ n ≤ 100000 ∧ 0 ≤ v ∧ v ≤ 1) : zAst M a (some (zA 11 n g)) (zi i) (.int (zi v)) 11 = some (zset M a (zA 11 n (zu g i v))) := by
  have h1 : ¬ zi i < 0 := fun q => by have := (zi_lt (x := i) (y := 0) (by omega)).mp q; omega
  have h2 : (zi i).toNatClampNeg = i.toNat := zi_nat c.1 (by omega)
  have h4 : vp_nar .boolean (zi v) = zi v := by
    have e : v = 0 ∨ v = 1 := by omega
    rcases e with rfl | rfl <;> rfl
  show (if (11 : Nat) = 11 then (if ¬ zi i < 0 ∧ (zi i).toNatClampNeg < n then (if (11 : Nat) = 10 then _ else if (11 : Nat) = 11 then some (zset M a (.inl (11, n, .inl (upd (fun j : Nat => if j < n then zi (g j) else 0) (zi i).toNatClampNeg (vp_nar .boolean (zi v)))))) else none) else none) else none) = _
  rw [h2, h4, if_pos rfl, if_pos ⟨h1, by omega⟩, if_neg (by decide), if_pos rfl, zu_fun c.1 (by omega)]
  rfl
theorem zAst_12 {M : zM} {a n x : Nat} {vs : List Value} {f : Int → Option Nat} {i : Int} (c : 0 ≤ i ∧ i < n ∧ n ≤ 100000) (hx : zget M x = some (zOb 6 vs)) : zAst M a (some (zAr n f)) (zi i) (.ref x) 12 = some (zset M a (zAr n (fun j => if j = i then some x else f j))) := by
  have h1 : ¬ zi i < 0 := fun q => by have := (zi_lt (x := i) (y := 0) (by omega)).mp q; omega
  have h2 : (zi i).toNatClampNeg = i.toNat := zi_nat c.1 (by omega)
  have h5 : va_up (fun j : Nat => f j) i.toNat (some x) = (fun j : Nat => if (j : Int) = i then some x else f j) := by
    funext j
    unfold va_up
    by_cases hj : j = i.toNat
    · rw [if_pos hj, if_pos (by omega)]
    · rw [if_neg hj, if_neg (by omega)]
  show (if (12 : Nat) = 12 ∧ (12 : Nat) = 12 then (if ¬ zi i < 0 ∧ (zi i).toNatClampNeg < n then (match zget M x with | some (.inr (6, _)) => some (zset M a (.inl (12, n, .inr (.inr (.inr (.inr (va_up (fun j : Nat => f j) (zi i).toNatClampNeg (some x)))))))) | _ => none) else none) else none) = _
  rw [h2, hx, if_pos ⟨rfl, rfl⟩, if_pos ⟨h1, by omega⟩]
  show some (zset M a (.inl (12, n, .inr (.inr (.inr (.inr (va_up (fun j : Nat => f j) i.toNat (some x)))))))) = _
  rw [h5]
  rfl
theorem zAlen_A {t n : Nat} {g : Int → Int} (h : t = 10 ∨ t = 11 ∨ t = 13) : zAlen (some (zA t n g)) = some (.int (zi n)) := by
  show (if t = 10 ∨ t = 11 ∨ t = 13 then some (Value.int (Int32.ofNat n)) else none) = _
  rw [if_pos h, zi_ofNat]
theorem zAlen_10 {n : Nat} {g : Int → Int} : zAlen (some (zA 10 n g)) = some (.int (zi n)) := zAlen_A (Or.inl rfl)
theorem zAlen_11 {n : Nat} {g : Int → Int} : zAlen (some (zA 11 n g)) = some (.int (zi n)) := zAlen_A (Or.inr (Or.inl rfl))
theorem zAlen_13 {n : Nat} {f : Nat → Int32} : zAlen (some (zA3 n f)) = some (.int (zi n)) := by
  show (if (13 : Nat) = 10 ∨ (13 : Nat) = 11 ∨ (13 : Nat) = 13 then some (Value.int (Int32.ofNat n)) else none) = _
  rw [if_pos (by decide), zi_ofNat]
theorem zis_ob {ci : Nat} {fs : List Value} : zis (some (zOb ci fs)) ci = true := by
  show Nat.beq ci ci = true
  exact Nat.beq_refl ci
