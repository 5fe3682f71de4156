/-! a small machine of our own: states are numbers, lists and a map of cells; its steps follow the class files' instructions -/
abbrev zE : Type := (Nat × vp_A) ⊕ (Nat × List Value)
/-- the cell of the static row, the heap's size, the slots made, the cells -/
abbrev zM : Type := Nat × Nat × Nat × (Nat → Option zE)
abbrev zL : Type := List (Option Value)
abbrev zK : Type := Option Value → zM → Prop
def zget (M : zM) (a : Nat) : Option zE := M.2.2.2 a
def zset (M : zM) (a : Nat) (c : zE) : zM := (M.1, M.2.1, M.2.2.1, fun j => if j = a then some c else M.2.2.2 j)
def znew (M : zM) (n : Nat) (c : zE) : zM := (M.1, M.2.1 + 1, M.2.2.1 + n, fun j => if j = M.2.1 then some c else M.2.2.2 j)
/-- what a step gives: a next state; a call and where it goes on; an answer -/
abbrev zO : Type := Option ((Nat × zL × List Value × zM) ⊕ ((Nat × List Value × zM × Nat × zL × List Value) ⊕ (Option Value × zM)))
def zN (pc : Nat) (L : zL) (S : List Value) (M : zM) : zO := some (.inl (pc, L, S, M))
def zFd (pc : Nat) : List zIn_ → Option (Instr × Nat)
  | [] => none
  | (q, x) :: t => bif Nat.beq q pc then some x else zFd pc t
def zI (mi pc : Nat) : Option (Instr × Nat) := (zIns[mi]?).bind (zFd pc)
def zFe (ix : Nat) : List zCe → Option (Nat × Nat × Nat)
  | [] => none
  | (_, q, k, a, b, _) :: t => bif Nat.beq q ix then some (k, a, b) else zFe ix t
def zCp (ow ix : Nat) : Option (Nat × Nat × Nat) := (zCpT[ow]?).bind (zFe ix)
def zFl (ow ix : Nat) : List (Nat × Nat × Int64 × Nat) → Option Int64
  | [] => none
  | (o, q, v, _) :: t => bif (Nat.beq o ow && Nat.beq q ix) then some v else zFl ow ix t
def zLc (ow ix : Nat) : Option Int64 := zFl ow ix zLcT
def zTyF (ci k : Nat) : Option FieldType := match vwCl[ci]? with
  | some r => if k < r.2.2 then parseFieldDescriptor (r.2.1 k).2.2.1 else none
  | none => none
def zFin (ci k : Nat) : Bool := match vwCl[ci]? with
  | some r => (r.2.1 k).2.2.2
  | none => true
/-- the fields of a new object -/
def zDf (ci : Nat) : List Value := match vwCl[ci]? with
  | some r => (List.range r.2.2).map fun k => match parseFieldDescriptor (r.2.1 k).2.2.1 with
    | some t => defaultValue t
    | none => .null
  | none => []
def zFit (t : Option FieldType) (v : Value) : Bool := match t, v with
  | some .int, .int _ => true
  | some (.object _), .ref _ => true
  | some (.array _), .ref _ => true
  | _, _ => false
def zJ (pc : Nat) (off : Int) (L : zL) (S : List Value) (M : zM) : zO := if 0 ≤ (pc : Int) + off then zN ((pc : Int) + off).toNat L S M else none
def zLdi (q : Nat) (L : zL) (i : Nat) (S : List Value) (M : zM) : zO := match L[i]? with
  | some (some (.int x)) => zN q L (.int x :: S) M
  | _ => none
def zLda (q : Nat) (L : zL) (i : Nat) (S : List Value) (M : zM) : zO := match L[i]? with
  | some (some (.ref x)) => zN q L (.ref x :: S) M
  | _ => none
def zLdl (q : Nat) (L : zL) (i : Nat) (S : List Value) (M : zM) : zO := match L[i]?, L[i + 1]? with
  | some (some (.long x)), some none => zN q L (.long x :: S) M
  | _, _ => none
def zSti (q : Nat) (L : zL) (i : Nat) (S : List Value) (M : zM) : zO := match S with
  | .int x :: S => if i < L.length then zN q (L.set i (some (.int x))) S M else none
  | _ => none
def zSta (q : Nat) (L : zL) (i : Nat) (S : List Value) (M : zM) : zO := match S with
  | .ref x :: S => if i < L.length then zN q (L.set i (some (.ref x))) S M else none
  | _ => none
def zStl (q : Nat) (L : zL) (i : Nat) (S : List Value) (M : zM) : zO := match S with
  | .long x :: S => if i + 1 < L.length then zN q ((L.set i (some (.long x))).set (i + 1) none) S M else none
  | _ => none
def zII (q : Nat) (L : zL) (S : List Value) (M : zM) (f : Int32 → Int32 → Int32) : zO := match S with
  | .int y :: .int x :: S => zN q L (.int (f x y) :: S) M
  | _ => none
def zDV (q : Nat) (L : zL) (S : List Value) (M : zM) (f : Int32 → Int32 → Int32) : zO := match S with
  | .int y :: .int x :: S => if y = 0 then none else zN q L (.int (f x y) :: S) M
  | _ => none
def zLL (q : Nat) (L : zL) (S : List Value) (M : zM) (f : Int64 → Int64 → Int64) : zO := match S with
  | .long y :: .long x :: S => zN q L (.long (f x y) :: S) M
  | _ => none
def zIc (cd : Jvm.ClassFile.Cond) (pc : Nat) (off : Int) (L : zL) (S : List Value) (M : zM) : zO := match S with
  | .int y :: .int x :: S => if 0 ≤ (pc : Int) + off then (match cd with
    | .eq => if x = y then zN ((pc : Int) + off).toNat L S M else zN (pc + 3) L S M
    | .ne => if x = y then zN (pc + 3) L S M else zN ((pc : Int) + off).toNat L S M
    | .lt => if x < y then zN ((pc : Int) + off).toNat L S M else zN (pc + 3) L S M
    | .ge => if x < y then zN (pc + 3) L S M else zN ((pc : Int) + off).toNat L S M
    | .gt => if y < x then zN ((pc : Int) + off).toNat L S M else zN (pc + 3) L S M
    | .le => if y < x then zN (pc + 3) L S M else zN ((pc : Int) + off).toNat L S M) else none
  | _ => none
/-- an element, of a row of ints (10, 13), booleans (11), stones (12) -/
def zAld (k : Nat) (o : Option zE) (i : Int32) : Option Value := match o with
  | some (.inl (t, n, .inl f)) => if (t = k ∨ (k = 10 ∧ t = 13)) ∧ ¬ k = 12 then (if ¬ i < 0 ∧ i.toNatClampNeg < n then some (.int (f i.toNatClampNeg)) else none) else none
  | some (.inl (t, n, .inr (.inr (.inr (.inr f))))) => if t = 12 ∧ k = 12 then (if ¬ i < 0 ∧ i.toNatClampNeg < n then (f i.toNatClampNeg).map Value.ref else none) else none
  | _ => none
def zAst (M : zM) (a : Nat) (o : Option zE) (i : Int32) (v : Value) (k : Nat) : Option zM := match o with
  | some (.inl (t, n, .inl f)) => match v with
    | .int x => if t = k then (if ¬ i < 0 ∧ i.toNatClampNeg < n then (if k = 10 then some (zset M a (.inl (10, n, .inl (upd f i.toNatClampNeg x)))) else if k = 11 then some (zset M a (.inl (11, n, .inl (upd f i.toNatClampNeg (vp_nar .boolean x))))) else none) else none) else none
    | _ => none
  | some (.inl (t, n, .inr (.inr (.inr (.inr f))))) => match v with
    | .ref x => if t = 12 ∧ k = 12 then (if ¬ i < 0 ∧ i.toNatClampNeg < n then (match zget M x with
      | some (.inr (6, _)) => some (zset M a (.inl (12, n, .inr (.inr (.inr (.inr (va_up f i.toNatClampNeg (some x))))))))
      | _ => none) else none) else none
    | _ => none
  | _ => none
def zAlen (o : Option zE) : Option Value := match o with
  | some (.inl (t, n, .inl _)) => if t = 10 ∨ t = 11 ∨ t = 13 then some (.int (Int32.ofNat n)) else none
  | _ => none
def zGf (o : Option zE) (ci k : Nat) : Option Value := match o with
  | some (.inr (c, fs)) => if c = ci then fs[k]? else none
  | _ => none
def zPf (M : zM) (a : Nat) (o : Option zE) (ci k : Nat) (v : Value) : Option zM := match o with
  | some (.inr (c, fs)) => if c = ci then (if k < fs.length ∧ zFit (zTyF ci k) v = true then some (zset M a (.inr (ci, fs.set k v))) else none) else none
  | _ => none
def zis (o : Option zE) (ci : Nat) : Bool := match o with
  | some (.inr (c, _)) => Nat.beq c ci
  | _ => false
def zPv (q : Nat) (L : zL) (S : List Value) (M : zM) (o : Option Value) : zO := match o with
  | some v => zN q L (v :: S) M
  | none => none
def zPm (q : Nat) (L : zL) (S : List Value) (o : Option zM) : zO := match o with
  | some M => zN q L S M
  | none => none
def zow (mi : Nat) : Nat := match zMeth[mi]? with
  | some r => r.2.2.2.2.1
  | none => 99
/-- calls: the kind 2, 3 virtual, 4, 5 static, 6, 7 constructors, 8 Object's own -/
def zCallS (q a n : Nat) (L : zL) (S : List Value) (M : zM) : zO :=
  if n ≤ S.length ∧ S.length ≤ n + 4 then some (.inr (.inl (a, (S.take n).reverse, M, q, L, S.drop n))) else none
def zCallV (q a n : Nat) (L : zL) (S : List Value) (M : zM) (chk : Bool) : zO := match S.drop n with
  | .ref b :: S' => if S'.length ≤ 4 ∧ n ≤ S.length then (if (chk = true → zis (zget M b) (zow a) = true) then some (.inr (.inl (a, .ref b :: (S.take n).reverse, M, q, L, S'))) else none) else none
  | _ => none
def zRt (lg : Bool) (rt : Option FieldType) (v : Value) : Bool := match lg, rt, v with
  | false, some .int, .int _ => true
  | false, some .boolean, .int x => x = 0 || x = 1
  | true, some .long, .long _ => true
  | _, _, _ => false
def zObj (q : Nat) (L : zL) (S : List Value) (M : zM) : zO := match S with
  | .ref _ :: S => if S.length ≤ 4 then zN q L S M else none
  | _ => none
def zRet (lg : Bool) (rt : Option FieldType) (S : List Value) (M : zM) : zO := match S with
  | [v] => if zRt lg rt v = true then some (.inr (.inr (some v, M))) else none
  | _ => none
def zRetV (rt : Option FieldType) (S : List Value) (M : zM) : zO := match S, rt with
  | [], none => some (.inr (.inr (none, M)))
  | _, _ => none
def zStep (ow : Nat) (rt : Option FieldType) (ini : Bool) (ins : Instr) (pc : Nat) (L : zL) (S : List Value) (M : zM) : zO := match ins with
  | .iconst i => zN (pc + 1) L (.int (Int32.ofInt i) :: S) M
  | .bipush n => zN (pc + 2) L (.int (Int8.ofInt n).toInt32 :: S) M
  | .sipush n => zN (pc + 3) L (.int (Int16.ofInt n).toInt32 :: S) M
  | .lconst n => zN (pc + 1) L (.long (Int64.ofNat (n : Nat)) :: S) M
  | .ldc2_w ix => match zLc ow ix with
    | some v => zN (pc + 3) L (.long v :: S) M
    | none => none
  | .iload_n k => zLdi (pc + 1) L k S M
  | .iload k => zLdi (pc + 2) L k S M
  | .aload_n k => zLda (pc + 1) L k S M
  | .lload_n k => zLdl (pc + 1) L k S M
  | .lload k => zLdl (pc + 2) L k S M
  | .istore_n k => zSti (pc + 1) L k S M
  | .istore k => zSti (pc + 2) L k S M
  | .astore_n k => zSta (pc + 1) L k S M
  | .lstore_n k => zStl (pc + 1) L k S M
  | .iinc i n => match L[i]? with
    | some (some (.int x)) => if i < L.length then zN (pc + 3) (L.set i (some (.int (x + Int32.ofInt n)))) S M else none
    | _ => none
  | .iadd => zII (pc + 1) L S M (fun x y => x + y)
  | .isub => zII (pc + 1) L S M (fun x y => x - y)
  | .imul => zII (pc + 1) L S M (fun x y => x * y)
  | .iand => zII (pc + 1) L S M (fun x y => x &&& y)
  | .ior => zII (pc + 1) L S M (fun x y => x ||| y)
  | .ixor => zII (pc + 1) L S M (fun x y => x ^^^ y)
  | .ishl => zII (pc + 1) L S M (fun x y => x <<< (y &&& 31))
  | .ishr => zII (pc + 1) L S M (fun x y => x >>> (y &&& 31))
  | .idiv => zDV (pc + 1) L S M (fun x y => x / y)
  | .irem => zDV (pc + 1) L S M (fun x y => x - x / y * y)
  | .ineg => match S with
    | .int x :: S => zN (pc + 1) L (.int (-x) :: S) M
    | _ => none
  | .ladd => zLL (pc + 1) L S M (fun x y => x + y)
  | .lmul => zLL (pc + 1) L S M (fun x y => x * y)
  | .lcmp => match S with
    | .long y :: .long x :: S => zN (pc + 1) L (.int (lg_cmp x y) :: S) M
    | _ => none
  | .i2l => match S with
    | .int x :: S => zN (pc + 1) L (.long x.toInt64 :: S) M
    | _ => none
  | .dup => match S with
    | .int x :: S => zN (pc + 1) L (.int x :: .int x :: S) M
    | .ref x :: S => zN (pc + 1) L (.ref x :: .ref x :: S) M
    | _ => none
  | .pop => match S with
    | .int _ :: S => zN (pc + 1) L S M
    | _ => none
  | .dup2 => match S with
    | .int x :: .ref y :: S => zN (pc + 1) L (.int x :: .ref y :: .int x :: .ref y :: S) M
    | _ => none
  | .if_icmp cd off => zIc cd pc off L S M
  | .ifCond cd off => zIc cd pc off L (.int 0 :: S) M
  | .goto off => zJ pc off L S M
  | .tableswitch dflt lo hi offs => match S with
    | .int x :: S => if x.toInt < lo ∨ hi < x.toInt then zJ pc dflt L S M else match offs[(x.toInt - lo).toNat]? with
      | some off => zJ pc off L S M
      | none => none
    | _ => none
  | .getfield ix => match S with
    | .ref a :: S => match zCp ow ix with
      | some (0, ci, k) => zPv (pc + 3) L S M (zGf (zget M a) ci k)
      | some (1, ci, k) => zPv (pc + 3) L S M (zGf (zget M a) ci k)
      | _ => none
    | _ => none
  | .putfield ix => match S with
    | v :: .ref a :: S => match zCp ow ix with
      | some (0, ci, k) => if (zFin ci k = true → (ini = true ∧ ow = ci)) then zPm (pc + 3) L S (zPf M a (zget M a) ci k v) else none
      | some (1, ci, k) => if zFin ci k = true then none else zPm (pc + 3) L S (zPf M a (zget M a) ci k v)
      | _ => none
    | _ => none
  | .getstatic ix => match zCp ow ix with
    | some (11, _, _) => zN (pc + 3) L (.ref M.1 :: S) M
    | _ => none
  | .iaload => match S with
    | .int i :: .ref a :: S => zPv (pc + 1) L S M (zAld 10 (zget M a) i)
    | _ => none
  | .baload => match S with
    | .int i :: .ref a :: S => zPv (pc + 1) L S M (zAld 11 (zget M a) i)
    | _ => none
  | .aaload => match S with
    | .int i :: .ref a :: S => zPv (pc + 1) L S M (zAld 12 (zget M a) i)
    | _ => none
  | .iastore => match S with
    | v :: .int i :: .ref a :: S => zPm (pc + 1) L S (zAst M a (zget M a) i v 10)
    | _ => none
  | .bastore => match S with
    | v :: .int i :: .ref a :: S => zPm (pc + 1) L S (zAst M a (zget M a) i v 11)
    | _ => none
  | .aastore => match S with
    | v :: .int i :: .ref a :: S => zPm (pc + 1) L S (zAst M a (zget M a) i v 12)
    | _ => none
  | .arraylength => match S with
    | .ref a :: S => zPv (pc + 1) L S M (zAlen (zget M a))
    | _ => none
  | .newarray t => match S with
    | .int n :: S => if ¬ n < 0 ∧ n.toNatClampNeg ≤ 100000 then match t with
        | .int => zN (pc + 2) L (.ref M.2.1 :: S) (znew M n.toNatClampNeg (.inl (10, n.toNatClampNeg, .inl (fun _ => 0))))
        | .boolean => zN (pc + 2) L (.ref M.2.1 :: S) (znew M n.toNatClampNeg (.inl (11, n.toNatClampNeg, .inl (fun _ => 0))))
        | _ => none
      else none
    | _ => none
  | .anewarray ix => match S with
    | .int n :: S => match zCp ow ix with
      | some (9, 6, _) => if ¬ n < 0 ∧ n.toNatClampNeg ≤ 100000 then zN (pc + 3) L (.ref M.2.1 :: S) (znew M n.toNatClampNeg (.inl (12, n.toNatClampNeg, .inr (.inr (.inr (.inr (fun _ => none))))))) else none
      | _ => none
    | _ => none
  | .new ix => match zCp ow ix with
    | some (9, ci, N) => zN (pc + 3) L (.ref M.2.1 :: S) (znew M N (.inr (ci, zDf ci)))
    | _ => none
  | .invokestatic ix => match zCp ow ix with
    | some (4, a, n) => zCallS (pc + 3) a n L S M
    | some (5, a, n) => zCallS (pc + 3) a n L S M
    | _ => none
  | .invokevirtual ix => match zCp ow ix with
    | some (2, a, n) => zCallV (pc + 3) a n L S M true
    | some (3, a, n) => zCallV (pc + 3) a n L S M true
    | _ => none
  | .invokespecial ix => match zCp ow ix with
    | some (6, a, n) => zCallV (pc + 3) a n L S M false
    | some (7, a, n) => zCallV (pc + 3) a n L S M false
    | some (8, _, _) => zObj (pc + 3) L S M
    | _ => none
  | .ireturn => zRet false rt S M
  | .lreturn => zRet true rt S M
  | .return_ => zRetV rt S M
  | _ => none
def zrt (mi : Nat) : Option FieldType := match zMeth[mi]? with
  | some r => r.2.2.2.1
  | none => none
def zml (mi : Nat) : Nat := match zMeth[mi]? with
  | some r => r.2.2.1
  | none => 0
def zkd (mi : Nat) : Nat := match zMeth[mi]? with
  | some r => r.2.2.2.2.2.2
  | none => 99
def zOut (mi pc : Nat) (L : zL) (S : List Value) (M : zM) : zO := match zI mi pc with
  | some x => zStep (zow mi) (zrt mi) (zkd mi == 2) x.1 pc L S M
  | none => none
def zFla : List Value → zL
  | [] => []
  | .long x :: t => some (.long x) :: none :: zFla t
  | .double x :: t => some (.double x) :: none :: zFla t
  | v :: t => some v :: zFla t
def zEn (n : Nat) (As : List Value) : zL := zFla As ++ List.replicate (n - (zFla As).length) none
def zGo (C : Nat → List Value → zM → zK → Prop) (nx : Nat → zL → List Value → zM → zK → Prop) (K : zK) : zO → Prop
  | none => False
  | some (.inl (pc, L, S, M)) => nx pc L S M K
  | some (.inr (.inl (a, As, M, pc, L, S))) => C a As M (fun r M' => nx pc L (r.toList ++ S) M' K)
  | some (.inr (.inr (r, M))) => K r M
def zR (C : Nat → List Value → zM → zK → Prop) (mi : Nat) : Nat → Nat → zL → List Value → zM → zK → Prop
  | 0 => fun _ _ _ _ _ => False
  | n + 1 => fun pc L S M K => zGo C (zR C mi n) K (zOut mi pc L S M)
/-- a call of a method, at most d deep -/
def zC : Nat → Nat → List Value → zM → zK → Prop
  | 0 => fun _ _ _ _ => False
  | d + 1 => fun mi As M K => (zFla As).length ≤ zml mi ∧ ∃ n, zR (zC d) mi n 0 (zEn (zml mi) As) [] M K
def Ev (d mi pc : Nat) (L : zL) (S : List Value) (M : zM) (K : zK) : Prop := ∃ n, zR (zC d) mi n pc L S M K
def zRK (d mi pc : Nat) (L : zL) (S : List Value) (K : zK) : zK := fun r M => Ev d mi pc L (r.toList ++ S) M K
theorem zGo_mono {C C' : Nat → List Value → zM → zK → Prop} {nx nx' : Nat → zL → List Value → zM → zK → Prop} {K K' : zK} (hC : ∀ a As M K K', (∀ r M, K r M → K' r M) → C a As M K → C' a As M K') (hn : ∀ pc L S M, nx pc L S M K → nx' pc L S M K') (hK : ∀ r M, K r M → K' r M) {o : zO} (h : zGo C nx K o) : zGo C' nx' K' o := by
  match o, h with
  | some (.inl (pc, L, S, M)), h => exact hn pc L S M h
  | some (.inr (.inl (a, As, M, pc, L, S))), h => exact hC a As M _ _ (fun r M' h' => hn pc L (r.toList ++ S) M' h') h
  | some (.inr (.inr (r, M))), h => exact hK r M h
theorem zR_mono {C : Nat → List Value → zM → zK → Prop} (hC : ∀ a As M K K', (∀ r M, K r M → K' r M) → C a As M K → C a As M K') {mi : Nat} : ∀ (n pc : Nat) (L : zL) (S : List Value) (M : zM) (K K' : zK), (∀ r M, K r M → K' r M) → zR C mi n pc L S M K → zR C mi n pc L S M K' := by
  intro n
  induction n with
  | zero => intro pc L S M K K' _ h; exact h
  | succ n ih => intro pc L S M K K' hK h; exact zGo_mono hC (fun pc L S M h => ih pc L S M K K' hK h) hK h
theorem zC_mono : ∀ (d mi : Nat) (As : List Value) (M : zM) (K K' : zK), (∀ r M, K r M → K' r M) → zC d mi As M K → zC d mi As M K' := by
  intro d
  induction d with
  | zero => intro mi As M K K' _ h; exact h
  | succ d ih => intro mi As M K K' hK h; obtain ⟨h0, n, h⟩ := h; exact ⟨h0, n, zR_mono ih n _ _ _ _ K K' hK h⟩
theorem zR_up {C : Nat → List Value → zM → zK → Prop} (hC : ∀ a As M K K', (∀ r M, K r M → K' r M) → C a As M K → C a As M K') {mi : Nat} : ∀ (n k pc : Nat) (L : zL) (S : List Value) (M : zM) (K : zK), zR C mi n pc L S M K → zR C mi (n + k) pc L S M K := by
  intro n
  induction n with
  | zero => intro k pc L S M K h; exact h.elim
  | succ n ih => intro k pc L S M K h; rw [Nat.add_right_comm]; exact zGo_mono (C := C) (nx := zR C mi n) (nx' := zR C mi (n + k)) hC (fun pc L S M h => ih k pc L S M K h) (fun _ _ h => h) h
/-- a run comes to one answer -/
theorem zR_one {C : Nat → List Value → zM → zK → Prop} (hC : ∀ a As M K K', (∀ r M, K r M → K' r M) → C a As M K → C a As M K') (h1 : ∀ a As M K, C a As M K → ∃ r M', K r M' ∧ M.2.1 ≤ M'.2.1 ∧ M.2.2.1 ≤ M'.2.2.1 ∧ M'.1 = M.1 ∧ C a As M (fun r' M'' => r' = r ∧ M'' = M')) (hs : ∀ mi pc L S M pc' L' S' M', zOut mi pc L S M = some (.inl (pc', L', S', M')) → M.2.1 ≤ M'.2.1 ∧ M.2.2.1 ≤ M'.2.2.1 ∧ M'.1 = M.1) (hc : ∀ mi pc L S M a As M' pc' L' S', zOut mi pc L S M = some (.inr (.inl (a, As, M', pc', L', S'))) → M' = M) (hr : ∀ mi pc L S M r M', zOut mi pc L S M = some (.inr (.inr (r, M'))) → M' = M) {mi : Nat} :
    ∀ (n pc : Nat) (L : zL) (S : List Value) (M : zM) (K : zK), zR C mi n pc L S M K → ∃ r M', K r M' ∧ M.2.1 ≤ M'.2.1 ∧ M.2.2.1 ≤ M'.2.2.1 ∧ M'.1 = M.1 ∧ zR C mi n pc L S M (fun r' M'' => r' = r ∧ M'' = M') := by
  intro n
  induction n with
  | zero => intro pc L S M K h; exact h.elim
  | succ n ih =>
    intro pc L S M K h
    have hg : zGo C (zR C mi n) K (zOut mi pc L S M) := h
    clear h
    show ∃ r M', K r M' ∧ M.2.1 ≤ M'.2.1 ∧ M.2.2.1 ≤ M'.2.2.1 ∧ M'.1 = M.1 ∧ zGo C (zR C mi n) (fun r' M'' => r' = r ∧ M'' = M') (zOut mi pc L S M)
    cases ho : zOut mi pc L S M with
    | none => rw [ho] at hg; exact hg.elim
    | some o =>
      rw [ho] at hg
      match o, hg, ho with
      | .inl (pc', L', S', M'), h, ho =>
        obtain ⟨r, M2, a1, a2, a3, a4, a5⟩ := ih pc' L' S' M' K h
        obtain ⟨b1, b2, b3⟩ := hs _ _ _ _ _ _ _ _ _ ho
        exact ⟨r, M2, a1, Nat.le_trans b1 a2, Nat.le_trans b2 a3, a4.trans b3, a5⟩
      | .inr (.inl (a, As, M', pc', L', S')), h, ho =>
        obtain rfl := hc _ _ _ _ _ _ _ _ _ _ _ ho
        obtain ⟨r1, M1, c1, c2, c3, c4, c5⟩ := h1 a As M' _ h
        obtain ⟨r, M2, a1, a2, a3, a4, a5⟩ := ih _ _ _ _ _ c1
        exact ⟨r, M2, a1, Nat.le_trans c2 a2, Nat.le_trans c3 a3, a4.trans c4, hC a As M' _ _ (fun r' M'' q => by obtain ⟨rfl, rfl⟩ := q; exact a5) c5⟩
      | .inr (.inr (r, M')), h, ho =>
        obtain rfl := hr _ _ _ _ _ _ _ ho
        exact ⟨r, M', h, Nat.le_refl _, Nat.le_refl _, rfl, rfl, rfl⟩
