/-! a step of our machine is a step of the machine -/
theorem zAld_int {k : Nat} {o : Option zE} {i : Int32} {v : Value} (hk : k = 10 ∨ k = 11) (h : zAld k o i = some v) : ∃ t n f, o = some (.inl (t, n, .inl f)) ∧ (t = k ∨ (k = 10 ∧ t = 13)) ∧ vp_in i n ∧ v = .int (f i.toNatClampNeg) := by
  unfold zAld at h
  split at h
  · next t n f =>
    split at h
    · next ht =>
      split at h
      · next hi => cases h; exact ⟨t, n, f, rfl, ht.1, fun q => q.elim hi.1 (fun z => absurd hi.2 (Nat.not_lt.mpr z)), rfl⟩
      · cases h
    · cases h
  · split at h
    · next ht => omega
    · cases h
  · cases h
theorem zAld_ref {o : Option zE} {i : Int32} {v : Value} (h : zAld 12 o i = some v) : ∃ n f x, o = some (.inl (12, n, .inr (.inr (.inr (.inr f))))) ∧ vp_in i n ∧ f i.toNatClampNeg = some x ∧ v = .ref x := by
  unfold zAld at h
  split at h
  · next t n f =>
    split at h
    · next ht => exact absurd rfl ht.2
    · cases h
  · next t n f =>
    split at h
    · next ht =>
      split at h
      · next hi =>
        obtain ⟨rfl, -⟩ := ht
        cases hf : f i.toNatClampNeg with
        | none => rw [hf] at h; cases h
        | some x => rw [hf] at h; cases h; exact ⟨n, f, x, rfl, fun q => q.elim hi.1 (fun z => absurd hi.2 (Nat.not_lt.mpr z)), hf, rfl⟩
      · cases h
    · cases h
  · cases h
theorem zAst_int {M M' : zM} {a k : Nat} {o : Option zE} {i : Int32} {v : Value} (hk : k = 10 ∨ k = 11) (h : zAst M a o i v k = some M') : ∃ n f x, o = some (.inl (k, n, .inl f)) ∧ v = .int x ∧ vp_in i n ∧ ((k = 10 ∧ M' = zset M a (.inl (10, n, .inl (upd f i.toNatClampNeg x)))) ∨ (k = 11 ∧ M' = zset M a (.inl (11, n, .inl (upd f i.toNatClampNeg (vp_nar .boolean x)))))) := by
  unfold zAst at h
  split at h
  · next t n f =>
    split at h
    · next x =>
      split at h
      · next ht =>
        subst ht
        split at h
        · next hi =>
          have hin : vp_in i n := fun q => q.elim hi.1 (fun z => absurd hi.2 (Nat.not_lt.mpr z))
          split at h
          · next h10 => subst h10; cases h; exact ⟨n, f, x, rfl, rfl, hin, Or.inl ⟨rfl, rfl⟩⟩
          · split at h
            · next h11 => subst h11; cases h; exact ⟨n, f, x, rfl, rfl, hin, Or.inr ⟨rfl, rfl⟩⟩
            · cases h
        · cases h
      · cases h
    · cases h
  · split at h
    · split at h
      · next ht => omega
      · cases h
    · cases h
  · cases h
theorem zAst_ref {M M' : zM} {a : Nat} {o : Option zE} {i : Int32} {v : Value} (h : zAst M a o i v 12 = some M') : ∃ n f x vs, o = some (.inl (12, n, .inr (.inr (.inr (.inr f))))) ∧ v = .ref x ∧ vp_in i n ∧ zget M x = some (.inr (6, vs)) ∧ M' = zset M a (.inl (12, n, .inr (.inr (.inr (.inr (va_up f i.toNatClampNeg (some x))))))) := by
  unfold zAst at h
  split at h
  · split at h
    · split at h
      · split at h
        · split at h
          · next q => cases q
          · split at h
            · next q => cases q
            · cases h
        · cases h
      · cases h
    · cases h
  · next t n f =>
    split at h
    · next x =>
      split at h
      · next ht =>
        split at h
        · next hi =>
          split at h
          · next vs hx => obtain ⟨rfl, -⟩ := ht; cases h; exact ⟨n, f, x, vs, rfl, rfl, fun q => q.elim hi.1 (fun z => absurd hi.2 (Nat.not_lt.mpr z)), hx, rfl⟩
          · cases h
        · cases h
      · cases h
    · cases h
  · cases h
theorem zAlen_inv {o : Option zE} {v : Value} (h : zAlen o = some v) : ∃ t n f, o = some (.inl (t, n, .inl f)) ∧ (t = 10 ∨ t = 11 ∨ t = 13) ∧ v = .int (Int32.ofNat n) := by
  unfold zAlen at h
  split at h
  · next t n f =>
    split at h
    · next ht => cases h; exact ⟨t, n, f, rfl, ht, rfl⟩
    · cases h
  · cases h
theorem zIc_inv {cd : Jvm.ClassFile.Cond} {pc : Nat} {off : Int} {L : zL} {S : List Value} {M : zM} {r : Nat × zL × List Value × zM} (h : zIc cd pc off L S M = some (.inl r)) : ∃ x y S0, S = .int y :: .int x :: S0 ∧ (pc : Int) + off = (((pc : Int) + off).toNat : Int) ∧ (match cd with
    | .eq => if x = y then zN ((pc : Int) + off).toNat L S0 M else zN (pc + 3) L S0 M
    | .ne => if x = y then zN (pc + 3) L S0 M else zN ((pc : Int) + off).toNat L S0 M
    | .lt => if x < y then zN ((pc : Int) + off).toNat L S0 M else zN (pc + 3) L S0 M
    | .ge => if x < y then zN (pc + 3) L S0 M else zN ((pc : Int) + off).toNat L S0 M
    | .gt => if y < x then zN ((pc : Int) + off).toNat L S0 M else zN (pc + 3) L S0 M
    | .le => if y < x then zN (pc + 3) L S0 M else zN ((pc : Int) + off).toNat L S0 M) = some (.inl r) := by
  unfold zIc at h
  split at h
  · next y x S0 =>
    split at h
    · next h0 => exact ⟨x, y, S0, rfl, by omega, h⟩
    · cases h
  · cases h
theorem zObj_inv {q : Nat} {L : zL} {S : List Value} {M : zM} {pc' : Nat} {L' : zL} {S' : List Value} {M' : zM} (h : zObj q L S M = some (.inl (pc', L', S', M'))) : ∃ b S0, S = .ref b :: S0 ∧ S0.length ≤ 4 ∧ q = pc' ∧ L = L' ∧ S0 = S' ∧ M = M' := by
  unfold zObj at h
  split at h
  · next b S0 =>
    split at h
    · next hn => exact ⟨b, S0, rfl, hn, zN_inj h⟩
    · cases h
  · cases h
theorem zRet_no {lg : Bool} {rt : Option FieldType} {S : List Value} {M : zM} {x : Nat × zL × List Value × zM} : ¬ zRet lg rt S M = some (.inl x) := by
  intro h
  unfold zRet at h
  repeat' split at h
  all_goals cases h
theorem zRetV_no {rt : Option FieldType} {S : List Value} {M : zM} {x : Nat × zL × List Value × zM} : ¬ zRetV rt S M = some (.inl x) := by
  intro h
  unfold zRetV at h
  split at h <;> cases h
theorem zCallS_no {q a n : Nat} {L : zL} {S : List Value} {M : zM} {x : Nat × zL × List Value × zM} : ¬ zCallS q a n L S M = some (.inl x) := by
  intro h
  unfold zCallS at h
  split at h <;> cases h
theorem zCallV_no {q a n : Nat} {L : zL} {S : List Value} {M : zM} {chk : Bool} {x : Nat × zL × List Value × zM} : ¬ zCallV q a n L S M chk = some (.inl x) := by
  intro h
  unfold zCallV at h
  repeat' split at h
  all_goals cases h
theorem zCat4 {S : List Value} (h : S.length ≤ 4) : (S.map fun v => v.category).sum ≤ 8 := by
  have h2 : ∀ l : List Value, (l.map fun v => v.category).sum ≤ 2 * l.length := by
    intro l
    induction l with
    | nil => exact Nat.le_refl _
    | cons v t ih =>
      have hv : v.category ≤ 2 := by rcases lv_cat v with q | q <;> omega
      simp only [List.map_cons, List.sum_cons, List.length_cons]
      omega
  have := h2 S
  omega

section ZS
variable {p : Program} {l : Launch} {e : Env} {R : Room} {s : State} {m : MethodId} {args : Array Value} {below : List Frame} {meth : Method} {c : Code} {Q : State → Prop}
variable {cc : ByteArray} {nL B aS n0 : Nat} {D : va_G} {ty : Nat → ClassId} {ow : Nat} {rt : Option FieldType} {ini : Bool}
/-- reads of rows, also of those that were there before -/
theorem z_iald {H : Heap} {locs : List Loc} {cells slots pc a n t : Nat} {ls : Array Slot} {rest : List Value} {f : Nat → Int32} (hexec : p.tables.exec = Jvm.exec) (hb : c.code = cc) (hK : va_K D vwCl (zTys ty) s) (hat : zat B D ty s H a (.inl (t, n, .inl f))) (ht : t = 10 ∨ t = 13) {i : Int32} (hin : vp_in i n) (hdg : decode cc pc = .ok (.iaload, 1))
    (kk : W p l e R s m args below meth c H locs cells slots Q (F0 m (pc + 1) ls (.int (f i.toNatClampNeg) :: rest))) : W p l e R s m args below meth c H locs cells slots Q (F0 m pc ls (.int i :: .ref a :: rest)) := by
  unfold zat at hat
  dsimp only at hat
  rcases ht with rfl | rfl
  · rw [if_neg (by decide)] at hat
    exact va_iald hexec hb hK (zat_one hat.2) 0 0 rfl rfl hin hdg kk
  · rw [if_pos rfl] at hat
    obtain ⟨n', f', e1, scr, h1, h2, h3, h4, h5⟩ := hat
    cases e1
    have hlt : i.toNatClampNeg < n := Nat.not_le.mp fun q => hin (Or.inr q)
    exact W.iald (v := .int (f i.toNatClampNeg)) hexec hb h1 h2 h3 (by rw [h4]; exact hin) (h5 _ hlt) rfl rfl hdg kk
theorem z_alen {H : Heap} {locs : List Loc} {cells slots pc a n t : Nat} {ls : Array Slot} {rest : List Value} {f : Nat → Int32} (hexec : p.tables.exec = Jvm.exec) (hb : c.code = cc) (hK : va_K D vwCl (zTys ty) s) (hat : zat B D ty s H a (.inl (t, n, .inl f))) (ht : t = 10 ∨ t = 11 ∨ t = 13) (hdg : decode cc pc = .ok (.arraylength, 1))
    (kk : W p l e R s m args below meth c H locs cells slots Q (F0 m (pc + 1) ls (.int (Int32.ofNat n) :: rest))) : W p l e R s m args below meth c H locs cells slots Q (F0 m pc ls (.ref a :: rest)) := by
  unfold zat at hat
  dsimp only at hat
  rcases ht with rfl | rfl | rfl
  · rw [if_neg (by decide)] at hat
    exact va_alen hexec hb hK (zat_one hat.2) 0 0 rfl (ty := .int) rfl rfl hdg kk
  · rw [if_neg (by decide)] at hat
    exact va_alen hexec hb hK (zat_one hat.2) 0 1 rfl (ty := .boolean) rfl rfl hdg kk
  · rw [if_pos rfl] at hat
    obtain ⟨n', f', e1, scr, h1, h2, h3, h4, h5⟩ := hat
    cases e1
    exact W.alen (n := Int32.ofNat n) hexec hb h1 h2 (by rw [h4] <;> rfl) rfl rfl hdg kk
set_option maxHeartbeats 4000000 in
theorem z_step (C : zCx p s m args meth c cc nL B aS D ty ow rt ini) {ins : Instr} {len pc : Nat} {L : zL} {S : List Value} {M : zM} (hd : decode cc pc = .ok (ins, len)) (hl : len = zLen ins len) {pc' : Nat} {L' : zL} {S' : List Value} {M' : zM} (h : zStep ow rt ini ins pc L S M = some (.inl (pc', L', S', M'))) (hR : M'.2.1 ≤ s.heap.size + R.cells ∧ M'.2.2.1 ≤ n0 + R.slots) (hn0 : n0 ≤ M.2.2.1) (hRf : 1 ≤ R.frames ∧ 20 ≤ R.locals) (k : zAt p l e R s m args below meth c Q B D ty nL aS n0 pc' L' S' M') : zAt p l e R s m args below meth c Q B D ty nL aS n0 pc L S M := by
  obtain ⟨hx, hb, hml, ⟨own, how, hown⟩, hts, hrt, hlk, hini, hK, hNk, hAO, hB, hZ⟩ := C
  intro H locs ls I
  obtain ⟨hP, hsz, hS, hL, hM1⟩ := I
  have hbase : s.heap.size ≤ M.2.1 := by rw [← hsz]; exact hS.1
  cases ins
  case iconst i =>
    have hl : len = 1 := hl
    subst hl
    obtain ⟨rfl, rfl, rfl, rfl⟩ := zN_inj h
    exact lv_iconst hx hb hd rfl (k H locs ls ⟨hP, hsz, hS, hL, hM1⟩)
  case bipush i =>
    have hl : len = 2 := hl
    subst hl
    obtain ⟨rfl, rfl, rfl, rfl⟩ := zN_inj h
    exact lv_bipush hx hb hd rfl (k H locs ls ⟨hP, hsz, hS, hL, hM1⟩)
  case sipush i =>
    have hl : len = 3 := hl
    subst hl
    obtain ⟨rfl, rfl, rfl, rfl⟩ := zN_inj h
    exact lv_sipush hx hb hd rfl (k H locs ls ⟨hP, hsz, hS, hL, hM1⟩)
  case lconst i =>
    have hl : len = 1 := hl
    subst hl
    obtain ⟨rfl, rfl, rfl, rfl⟩ := zN_inj h
    exact lv_lconst hx hb hd rfl (k H locs ls ⟨hP, hsz, hS, hL, hM1⟩)
  case ldc2_w ix =>
    have hl : len = 3 := hl
    subst hl
    replace h : (match zLc ow ix with | some v => zN (pc + 3) L (.long v :: S) M | none => none) = _ := h
    split at h
    · next v hv =>
      obtain ⟨rfl, rfl, rfl, rfl⟩ := zN_inj h
      exact lv_ldc2 hx hb hown (hts _ (zWm (zLc_ok how hv) rfl)) hd (k H locs ls ⟨hP, hsz, hS, hL, hM1⟩)
    · cases h
  case iload_n i =>
    have hl : len = 1 := hl
    subst hl
    obtain ⟨x, hx0, rfl, rfl, rfl, rfl⟩ := zLdi_inv h
    exact lv_iload_n hx hb hd rfl (hL.get hx0 (fun q => by cases q)) (k H locs ls ⟨hP, hsz, hS, hL, hM1⟩)
  case iload i =>
    have hl : len = 2 := hl
    subst hl
    obtain ⟨x, hx0, rfl, rfl, rfl, rfl⟩ := zLdi_inv h
    exact lv_iload hx hb hd (hL.get hx0 (fun q => by cases q)) (k H locs ls ⟨hP, hsz, hS, hL, hM1⟩)
  case aload_n i =>
    have hl : len = 1 := hl
    subst hl
    obtain ⟨x, hx0, rfl, rfl, rfl, rfl⟩ := zLda_inv h
    exact lv_aload_n hx hb hd rfl (hL.get hx0 (fun q => by cases q)) (k H locs ls ⟨hP, hsz, hS, hL, hM1⟩)
  case lload_n i =>
    have hl : len = 1 := hl
    subst hl
    obtain ⟨x, hx0, hx1, rfl, rfl, rfl, rfl⟩ := zLdl_inv h
    exact lv_lload_n hx hb hd rfl (hL.get hx0 (fun _ => hx1)) (k H locs ls ⟨hP, hsz, hS, hL, hM1⟩)
  case lload i =>
    have hl : len = 2 := hl
    subst hl
    obtain ⟨x, hx0, hx1, rfl, rfl, rfl, rfl⟩ := zLdl_inv h
    exact lv_lload hx hb hd (hL.get hx0 (fun _ => hx1)) (k H locs ls ⟨hP, hsz, hS, hL, hM1⟩)
  case istore_n i =>
    have hl : len = 1 := hl
    subst hl
    obtain ⟨x, S0, rfl, hi, rfl, rfl, rfl, rfl⟩ := zSti_inv h
    exact lv_istore_n hx hb hd rfl hL.2 (by rw [← hL.1]; exact hi) rfl (fun ls' hl' => k H locs ls' ⟨hP, hsz, hS, hL.st1 hi rfl hl', hM1⟩)
  case istore i =>
    have hl : len = 2 := hl
    subst hl
    obtain ⟨x, S0, rfl, hi, rfl, rfl, rfl, rfl⟩ := zSti_inv h
    exact lv_istore hx hb hd hL.2 (by rw [← hL.1]; exact hi) rfl (fun ls' hl' => k H locs ls' ⟨hP, hsz, hS, hL.st1 hi rfl hl', hM1⟩)
  case astore_n i =>
    have hl : len = 1 := hl
    subst hl
    obtain ⟨x, S0, rfl, hi, rfl, rfl, rfl, rfl⟩ := zSta_inv h
    exact lv_astore_n hx hb hd rfl hL.2 (by rw [← hL.1]; exact hi) rfl (fun ls' hl' => k H locs ls' ⟨hP, hsz, hS, hL.st1 hi rfl hl', hM1⟩)
  case lstore_n i =>
    have hl : len = 1 := hl
    subst hl
    obtain ⟨x, S0, rfl, hi, rfl, rfl, rfl, rfl⟩ := zStl_inv h
    exact lv_lstore_n hx hb hd rfl hL.2 (by rw [← hL.1]; exact hi) rfl (fun ls' hl' => k H locs ls' ⟨hP, hsz, hS, hL.st2 hi rfl hl', hM1⟩)
  case iinc i n =>
    have hl : len = 3 := hl
    subst hl
    replace h : (match L[i]? with | some (some (.int x)) => if i < L.length then zN (pc + 3) (L.set i (some (.int (x + Int32.ofInt n)))) S M else none | _ => none) = _ := h
    split at h
    · next x hx0 =>
      split at h
      · next hi =>
        obtain ⟨rfl, rfl, rfl, rfl⟩ := zN_inj h
        obtain ⟨q, hq⟩ := List.getElem?_of_mem (zAs_mem.mpr ⟨hx0, fun z => by cases z⟩)
        exact lv_iinc hx hb hd hL.2 hq rfl (by rw [← hL.1]; exact hi) rfl (fun ls' hl' => k H locs ls' ⟨hP, hsz, hS, hL.st1 hi rfl hl', hM1⟩)
      · cases h
    · cases h
  case iadd =>
    have hl : len = 1 := hl
    subst hl
    obtain ⟨x, y, S0, rfl, rfl, rfl, rfl, rfl⟩ := zII_inv h
    exact lv_iadd hx hb hd (k H locs ls ⟨hP, hsz, hS, hL, hM1⟩)
  case isub =>
    have hl : len = 1 := hl
    subst hl
    obtain ⟨x, y, S0, rfl, rfl, rfl, rfl, rfl⟩ := zII_inv h
    exact lv_isub hx hb hd (k H locs ls ⟨hP, hsz, hS, hL, hM1⟩)
  case imul =>
    have hl : len = 1 := hl
    subst hl
    obtain ⟨x, y, S0, rfl, rfl, rfl, rfl, rfl⟩ := zII_inv h
    exact lv_imul hx hb hd (k H locs ls ⟨hP, hsz, hS, hL, hM1⟩)
  case iand =>
    have hl : len = 1 := hl
    subst hl
    obtain ⟨x, y, S0, rfl, rfl, rfl, rfl, rfl⟩ := zII_inv h
    exact lv_iand hx hb hd (k H locs ls ⟨hP, hsz, hS, hL, hM1⟩)
  case ior =>
    have hl : len = 1 := hl
    subst hl
    obtain ⟨x, y, S0, rfl, rfl, rfl, rfl, rfl⟩ := zII_inv h
    exact lv_ior hx hb hd (k H locs ls ⟨hP, hsz, hS, hL, hM1⟩)
  case ixor =>
    have hl : len = 1 := hl
    subst hl
    obtain ⟨x, y, S0, rfl, rfl, rfl, rfl, rfl⟩ := zII_inv h
    exact lv_ixor hx hb hd (k H locs ls ⟨hP, hsz, hS, hL, hM1⟩)
  case ishl =>
    have hl : len = 1 := hl
    subst hl
    obtain ⟨x, y, S0, rfl, rfl, rfl, rfl, rfl⟩ := zII_inv h
    exact lv_ishl hx hb hd (k H locs ls ⟨hP, hsz, hS, hL, hM1⟩)
  case ishr =>
    have hl : len = 1 := hl
    subst hl
    obtain ⟨x, y, S0, rfl, rfl, rfl, rfl, rfl⟩ := zII_inv h
    exact lv_ishr hx hb hd (k H locs ls ⟨hP, hsz, hS, hL, hM1⟩)
  case idiv =>
    have hl : len = 1 := hl
    subst hl
    obtain ⟨x, y, S0, rfl, hy, rfl, rfl, rfl, rfl⟩ := zDV_inv h
    exact lv_idiv hx hb hd hy (k H locs ls ⟨hP, hsz, hS, hL, hM1⟩)
  case irem =>
    have hl : len = 1 := hl
    subst hl
    obtain ⟨x, y, S0, rfl, hy, rfl, rfl, rfl, rfl⟩ := zDV_inv h
    exact lv_irem hx hb hd hy (k H locs ls ⟨hP, hsz, hS, hL, hM1⟩)
  case ladd =>
    have hl : len = 1 := hl
    subst hl
    obtain ⟨x, y, S0, rfl, rfl, rfl, rfl, rfl⟩ := zLL_inv h
    exact lv_ladd hx hb hd (k H locs ls ⟨hP, hsz, hS, hL, hM1⟩)
  case lmul =>
    have hl : len = 1 := hl
    subst hl
    obtain ⟨x, y, S0, rfl, rfl, rfl, rfl, rfl⟩ := zLL_inv h
    exact lv_lmul hx hb hd (k H locs ls ⟨hP, hsz, hS, hL, hM1⟩)
  case ineg =>
    have hl : len = 1 := hl
    subst hl
    replace h : (match S with | .int x :: S => zN (pc + 1) L (.int (-x) :: S) M | _ => none) = _ := h
    split at h
    · next x S0 => obtain ⟨rfl, rfl, rfl, rfl⟩ := zN_inj h; exact lv_ineg hx hb hd (k H locs ls ⟨hP, hsz, hS, hL, hM1⟩)
    · cases h
  case lcmp =>
    have hl : len = 1 := hl
    subst hl
    replace h : (match S with | .long y :: .long x :: S => zN (pc + 1) L (.int (lg_cmp x y) :: S) M | _ => none) = _ := h
    split at h
    · next y x S0 => obtain ⟨rfl, rfl, rfl, rfl⟩ := zN_inj h; exact W.lcmp hx hb hd (k H locs ls ⟨hP, hsz, hS, hL, hM1⟩)
    · cases h
  case i2l =>
    have hl : len = 1 := hl
    subst hl
    replace h : (match S with | .int x :: S => zN (pc + 1) L (.long x.toInt64 :: S) M | _ => none) = _ := h
    split at h
    · next x S0 => obtain ⟨rfl, rfl, rfl, rfl⟩ := zN_inj h; exact lv_i2l hx hb hd rfl (k H locs ls ⟨hP, hsz, hS, hL, hM1⟩)
    · cases h
  case dup =>
    have hl : len = 1 := hl
    subst hl
    replace h : (match S with | .int x :: S => zN (pc + 1) L (.int x :: .int x :: S) M | .ref x :: S => zN (pc + 1) L (.ref x :: .ref x :: S) M | _ => none) = _ := h
    split at h
    · next x S0 => obtain ⟨rfl, rfl, rfl, rfl⟩ := zN_inj h; exact lv_dup hx hb hd rfl (k H locs ls ⟨hP, hsz, hS, hL, hM1⟩)
    · next x S0 => obtain ⟨rfl, rfl, rfl, rfl⟩ := zN_inj h; exact lv_dup hx hb hd rfl (k H locs ls ⟨hP, hsz, hS, hL, hM1⟩)
    · cases h
  case pop =>
    have hl : len = 1 := hl
    subst hl
    replace h : (match S with | .int _ :: S => zN (pc + 1) L S M | _ => none) = _ := h
    split at h
    · next x S0 => obtain ⟨rfl, rfl, rfl, rfl⟩ := zN_inj h; exact lv_pop hx hb hd rfl (k H locs ls ⟨hP, hsz, hS, hL, hM1⟩)
    · cases h
  case dup2 =>
    have hl : len = 1 := hl
    subst hl
    replace h : (match S with | .int x :: .ref y :: S => zN (pc + 1) L (.int x :: .ref y :: .int x :: .ref y :: S) M | _ => none) = _ := h
    split at h
    · next x y S0 => obtain ⟨rfl, rfl, rfl, rfl⟩ := zN_inj h; exact lv_dup2_11 hx hb hd rfl rfl (k H locs ls ⟨hP, hsz, hS, hL, hM1⟩)
    · cases h
  case if_icmp cd off =>
    have hl : len = 3 := hl
    subst hl
    replace h : zIc cd pc off L (S) M = _ := h
    obtain ⟨x, y, S0, e0, h0, h9⟩ := zIc_inv h
    clear h
    subst e0
    cases cd
    case eq =>
      dsimp only at h9
      by_cases c0 : x = y
      · rw [if_pos c0] at h9; obtain ⟨rfl, rfl, rfl, rfl⟩ := zN_inj h9
        exact lv_icmp_eq hx hb hd h0 (fun _ => k H locs ls ⟨hP, hsz, hS, hL, hM1⟩) (fun z => absurd c0 z)
      · rw [if_neg c0] at h9; obtain ⟨rfl, rfl, rfl, rfl⟩ := zN_inj h9
        exact lv_icmp_eq hx hb hd h0 (fun z => absurd z c0) (fun _ => k H locs ls ⟨hP, hsz, hS, hL, hM1⟩)
    case ne =>
      dsimp only at h9
      by_cases c0 : x = y
      · rw [if_pos c0] at h9; obtain ⟨rfl, rfl, rfl, rfl⟩ := zN_inj h9
        exact lv_icmp_ne hx hb hd h0 (fun z => absurd c0 z) (fun _ => k H locs ls ⟨hP, hsz, hS, hL, hM1⟩)
      · rw [if_neg c0] at h9; obtain ⟨rfl, rfl, rfl, rfl⟩ := zN_inj h9
        exact lv_icmp_ne hx hb hd h0 (fun _ => k H locs ls ⟨hP, hsz, hS, hL, hM1⟩) (fun z => absurd z c0)
    case lt =>
      dsimp only at h9
      by_cases c0 : x < y
      · rw [if_pos c0] at h9; obtain ⟨rfl, rfl, rfl, rfl⟩ := zN_inj h9
        exact lv_icmp_lt hx hb hd h0 (fun _ => k H locs ls ⟨hP, hsz, hS, hL, hM1⟩) (fun z => absurd c0 z)
      · rw [if_neg c0] at h9; obtain ⟨rfl, rfl, rfl, rfl⟩ := zN_inj h9
        exact lv_icmp_lt hx hb hd h0 (fun z => absurd z c0) (fun _ => k H locs ls ⟨hP, hsz, hS, hL, hM1⟩)
    case ge =>
      dsimp only at h9
      by_cases c0 : x < y
      · rw [if_pos c0] at h9; obtain ⟨rfl, rfl, rfl, rfl⟩ := zN_inj h9
        exact lv_icmp_ge hx hb hd h0 (fun z => absurd c0 (Int32.not_lt.mpr z)) (fun _ => k H locs ls ⟨hP, hsz, hS, hL, hM1⟩)
      · rw [if_neg c0] at h9; obtain ⟨rfl, rfl, rfl, rfl⟩ := zN_inj h9
        exact lv_icmp_ge hx hb hd h0 (fun _ => k H locs ls ⟨hP, hsz, hS, hL, hM1⟩) (fun z => absurd (Int32.not_lt.mp c0) z)
    case gt =>
      dsimp only at h9
      by_cases c0 : y < x
      · rw [if_pos c0] at h9; obtain ⟨rfl, rfl, rfl, rfl⟩ := zN_inj h9
        exact lv_icmp_gt hx hb hd h0 (fun _ => k H locs ls ⟨hP, hsz, hS, hL, hM1⟩) (fun z => absurd c0 z)
      · rw [if_neg c0] at h9; obtain ⟨rfl, rfl, rfl, rfl⟩ := zN_inj h9
        exact lv_icmp_gt hx hb hd h0 (fun z => absurd z c0) (fun _ => k H locs ls ⟨hP, hsz, hS, hL, hM1⟩)
    case le =>
      dsimp only at h9
      by_cases c0 : y < x
      · rw [if_pos c0] at h9; obtain ⟨rfl, rfl, rfl, rfl⟩ := zN_inj h9
        exact lv_icmp_le hx hb hd h0 (fun z => absurd c0 (Int32.not_lt.mpr z)) (fun _ => k H locs ls ⟨hP, hsz, hS, hL, hM1⟩)
      · rw [if_neg c0] at h9; obtain ⟨rfl, rfl, rfl, rfl⟩ := zN_inj h9
        exact lv_icmp_le hx hb hd h0 (fun _ => k H locs ls ⟨hP, hsz, hS, hL, hM1⟩) (fun z => absurd (Int32.not_lt.mp c0) z)
  case ifCond cd off =>
    have hl : len = 3 := hl
    subst hl
    replace h : zIc cd pc off L (.int 0 :: S) M = _ := h
    obtain ⟨x, y, S0, e0, h0, h9⟩ := zIc_inv h
    clear h
    obtain ⟨e1, e2⟩ := List.cons.inj e0
    cases e1
    subst e2
    cases cd
    case eq =>
      dsimp only at h9
      by_cases c0 : x = 0
      · rw [if_pos c0] at h9; obtain ⟨rfl, rfl, rfl, rfl⟩ := zN_inj h9
        exact lv_if_eq hx hb hd h0 (fun _ => k H locs ls ⟨hP, hsz, hS, hL, hM1⟩) (fun z => absurd c0 z)
      · rw [if_neg c0] at h9; obtain ⟨rfl, rfl, rfl, rfl⟩ := zN_inj h9
        exact lv_if_eq hx hb hd h0 (fun z => absurd z c0) (fun _ => k H locs ls ⟨hP, hsz, hS, hL, hM1⟩)
    case ne =>
      dsimp only at h9
      by_cases c0 : x = 0
      · rw [if_pos c0] at h9; obtain ⟨rfl, rfl, rfl, rfl⟩ := zN_inj h9
        exact lv_if_ne hx hb hd h0 (fun z => absurd c0 z) (fun _ => k H locs ls ⟨hP, hsz, hS, hL, hM1⟩)
      · rw [if_neg c0] at h9; obtain ⟨rfl, rfl, rfl, rfl⟩ := zN_inj h9
        exact lv_if_ne hx hb hd h0 (fun _ => k H locs ls ⟨hP, hsz, hS, hL, hM1⟩) (fun z => absurd z c0)
    case lt =>
      dsimp only at h9
      by_cases c0 : x < 0
      · rw [if_pos c0] at h9; obtain ⟨rfl, rfl, rfl, rfl⟩ := zN_inj h9
        exact lv_if_lt hx hb hd h0 (fun _ => k H locs ls ⟨hP, hsz, hS, hL, hM1⟩) (fun z => absurd c0 z)
      · rw [if_neg c0] at h9; obtain ⟨rfl, rfl, rfl, rfl⟩ := zN_inj h9
        exact lv_if_lt hx hb hd h0 (fun z => absurd z c0) (fun _ => k H locs ls ⟨hP, hsz, hS, hL, hM1⟩)
    case ge =>
      dsimp only at h9
      by_cases c0 : x < 0
      · rw [if_pos c0] at h9; obtain ⟨rfl, rfl, rfl, rfl⟩ := zN_inj h9
        exact lv_if_ge hx hb hd h0 (fun z => absurd c0 (Int32.not_lt.mpr z)) (fun _ => k H locs ls ⟨hP, hsz, hS, hL, hM1⟩)
      · rw [if_neg c0] at h9; obtain ⟨rfl, rfl, rfl, rfl⟩ := zN_inj h9
        exact lv_if_ge hx hb hd h0 (fun _ => k H locs ls ⟨hP, hsz, hS, hL, hM1⟩) (fun z => absurd (Int32.not_lt.mp c0) z)
    case gt =>
      dsimp only at h9
      by_cases c0 : 0 < x
      · rw [if_pos c0] at h9; obtain ⟨rfl, rfl, rfl, rfl⟩ := zN_inj h9
        exact lv_if_gt hx hb hd h0 (fun _ => k H locs ls ⟨hP, hsz, hS, hL, hM1⟩) (fun z => absurd c0 z)
      · rw [if_neg c0] at h9; obtain ⟨rfl, rfl, rfl, rfl⟩ := zN_inj h9
        exact lv_if_gt hx hb hd h0 (fun z => absurd z c0) (fun _ => k H locs ls ⟨hP, hsz, hS, hL, hM1⟩)
    case le =>
      dsimp only at h9
      by_cases c0 : 0 < x
      · rw [if_pos c0] at h9; obtain ⟨rfl, rfl, rfl, rfl⟩ := zN_inj h9
        exact lv_if_le hx hb hd h0 (fun z => absurd c0 (Int32.not_lt.mpr z)) (fun _ => k H locs ls ⟨hP, hsz, hS, hL, hM1⟩)
      · rw [if_neg c0] at h9; obtain ⟨rfl, rfl, rfl, rfl⟩ := zN_inj h9
        exact lv_if_le hx hb hd h0 (fun _ => k H locs ls ⟨hP, hsz, hS, hL, hM1⟩) (fun z => absurd (Int32.not_lt.mp c0) z)
  case goto off =>
    have hl : len = 3 := hl
    subst hl
    obtain ⟨ht, rfl, rfl, rfl⟩ := zJ_inv h
    exact lv_goto hx hb hd ht (k H locs ls ⟨hP, hsz, hS, hL, hM1⟩)
  case tableswitch dflt lo hi offs =>
    replace h : (match S with | .int x :: S => if x.toInt < lo ∨ hi < x.toInt then zJ pc dflt L S M else (match offs[(x.toInt - lo).toNat]? with | some off => zJ pc off L S M | none => none) | _ => none) = _ := h
    split at h
    · next x S0 =>
      split at h
      · next c0 =>
        obtain ⟨ht, rfl, rfl, rfl⟩ := zJ_inv h
        exact lv_tableOut hx hb hd c0 ht (k H locs ls ⟨hP, hsz, hS, hL, hM1⟩)
      · next c0 =>
        split at h
        · next off ho =>
          obtain ⟨ht, rfl, rfl, rfl⟩ := zJ_inv h
          exact lv_tableIn hx hb hd (fun z => c0 (Or.inl z)) (fun z => c0 (Or.inr z)) ho ht (k H locs ls ⟨hP, hsz, hS, hL, hM1⟩)
        · cases h
    · cases h
  case getfield ix =>
    have hl : len = 3 := hl
    subst hl
    replace h : (match S with
      | .ref a :: S => (match zCp ow ix with
        | some (0, ci, k) => zPv (pc + 3) L S M (zGf (zget M a) ci k)
        | some (1, ci, k) => zPv (pc + 3) L S M (zGf (zget M a) ci k)
        | _ => none)
      | _ => none) = _ := h
    split at h
    · next a S0 =>
      split at h
      · next ci kf hcp =>
        obtain ⟨v, hv, rfl, rfl, rfl, rfl⟩ := zPv_inv h
        obtain ⟨fs, hg, hf⟩ := zGf_inv hv
        obtain ⟨_, _, r, hc, hk, hw⟩ := zCp_ok how hcp
        obtain ⟨hin, -, -, -, -⟩ := zcl_ok hc
        exact va_get hx hb hts hin hown hK (zat_one (hP a _ hg).2) 0 rfl hc kf hk (hts _ (zWm hw rfl)) (fun _ z => z) hf hd (k H locs ls ⟨hP, hsz, hS, hL, hM1⟩)
      · next ci kf hcp =>
        obtain ⟨v, hv, rfl, rfl, rfl, rfl⟩ := zPv_inv h
        obtain ⟨fs, hg, hf⟩ := zGf_inv hv
        obtain ⟨_, _, r, hc, hk, hw⟩ := zCp_ok how hcp
        obtain ⟨hin, -, -, -, -⟩ := zcl_ok hc
        exact va_getN hx hb hts hin hown hK (zat_one (hP a _ hg).2) 0 rfl hc kf hk (va_Nw.use rfl (hNk _ hw rfl)) (fun _ z => z) hf hd (k H locs ls ⟨hP, hsz, hS, hL, hM1⟩)
      · cases h
    · cases h
  case putfield ix =>
    have hl : len = 3 := hl
    subst hl
    replace h : (match S with
      | v :: .ref a :: S => (match zCp ow ix with
        | some (0, ci, k) => if (zFin ci k = true → (ini = true ∧ ow = ci)) then zPm (pc + 3) L S (zPf M a (zget M a) ci k v) else none
        | some (1, ci, k) => if zFin ci k = true then none else zPm (pc + 3) L S (zPf M a (zget M a) ci k v)
        | _ => none)
      | _ => none) = _ := h
    split at h
    · next v a S0 =>
      split at h
      · next ci kf hcp =>
        split at h
        · next hfin =>
          obtain ⟨hm, rfl, rfl, rfl⟩ := zPm_inv h
          obtain ⟨fs, hg, hlt, hfit, rfl⟩ := zPf_inv hm
          obtain ⟨_, _, r, hc, hk, hw⟩ := zCp_ok how hcp
          rw [zFin_ok hc] at hfin
          have hown2 := (zcl_ok hc).2.2.2.2
          refine z_put hx hb hown hts hK hc hk (hP a _ hg).2 hlt hfit (hts _ (zWm hw rfl)) ?_ hd (fun H1 j hat1 z1 oq => k H1 (locs ++ [⟨a, j⟩]) ls ⟨hP.set ⟨(hP a _ hg).1, hat1⟩ oq, z1.trans hsz, hS.put z1 oq (hP a _ hg).1, hL, hM1⟩)
          cases hq : (r.2.1 kf).2.2.2 with
          | false => exact Or.inl rfl
          | true =>
            obtain ⟨h1, h2⟩ := hfin hq
            refine Or.inr ⟨rfl, hini h1, ?_⟩
            rw [← h2] at hown2
            exact Option.some.inj (how.symm.trans hown2)
        · cases h
      · next ci kf hcp =>
        split at h
        · cases h
        · next hfin =>
          obtain ⟨hm, rfl, rfl, rfl⟩ := zPm_inv h
          obtain ⟨fs, hg, hlt, hfit, rfl⟩ := zPf_inv hm
          obtain ⟨_, _, r, hc, hk, hw⟩ := zCp_ok how hcp
          rw [zFin_ok hc] at hfin
          exact z_putN hx hb hown hts hK hc hk (hP a _ hg).2 hlt hfit (va_Nw.use rfl (hNk _ hw rfl)) (by simpa using hfin) hd (fun H1 j hat1 z1 oq => k H1 (locs ++ [⟨a, j⟩]) ls ⟨hP.set ⟨(hP a _ hg).1, hat1⟩ oq, z1.trans hsz, hS.put z1 oq (hP a _ hg).1, hL, hM1⟩)
      · cases h
    · cases h
  case getstatic ix =>
    have hl : len = 3 := hl
    subst hl
    replace h : (match zCp ow ix with
      | some (11, _, _) => zN (pc + 3) L (.ref M.1 :: S) M
      | _ => none) = _ := h
    split at h
    · next _ _ hcp =>
      obtain ⟨rfl, rfl, rfl, rfl⟩ := zN_inj h
      obtain ⟨_, _, hw⟩ := zCp_ok how hcp
      rw [hM1] at k
      exact va_gets hx hb hZ hS hown (hts _ (zWm hw rfl)) (fun _ z => z) hd (k H locs ls ⟨hP, hsz, hS, hL, hM1⟩)
    · cases h
  case iaload =>
    have hl : len = 1 := hl
    subst hl
    replace h : (match S with | .int i :: .ref a :: S => zPv (pc + 1) L S M (zAld 10 (zget M a) i) | _ => none) = _ := h
    split at h
    · next i a S0 =>
      obtain ⟨v, hv, rfl, rfl, rfl, rfl⟩ := zPv_inv h
      obtain ⟨t, n, f, hg, ht, hin, rfl⟩ := zAld_int (by decide) hv
      exact z_iald hx hb hK (hP a _ hg) (by rcases ht with rfl | ⟨_, rfl⟩ <;> simp) hin hd (k H locs ls ⟨hP, hsz, hS, hL, hM1⟩)
    · cases h
  case baload =>
    have hl : len = 1 := hl
    subst hl
    replace h : (match S with | .int i :: .ref a :: S => zPv (pc + 1) L S M (zAld 11 (zget M a) i) | _ => none) = _ := h
    split at h
    · next i a S0 =>
      obtain ⟨v, hv, rfl, rfl, rfl, rfl⟩ := zPv_inv h
      obtain ⟨t, n, f, hg, ht, hin, rfl⟩ := zAld_int (by decide) hv
      obtain rfl : t = 11 := by rcases ht with h1 | ⟨h1, -⟩ <;> omega
      have hat := hP a _ hg
      exact va_zald hx hb hK (zat_one hat.2) 0 1 rfl rfl hin hd (k H locs ls ⟨hP, hsz, hS, hL, hM1⟩)
    · cases h
  case aaload =>
    have hl : len = 1 := hl
    subst hl
    replace h : (match S with | .int i :: .ref a :: S => zPv (pc + 1) L S M (zAld 12 (zget M a) i) | _ => none) = _ := h
    split at h
    · next i a S0 =>
      obtain ⟨v, hv, rfl, rfl, rfl, rfl⟩ := zPv_inv h
      obtain ⟨n, f, x, hg, hin, hf, rfl⟩ := zAld_ref hv
      have hat := hP a _ hg
      refine va_aldq hx hb hK (zat_one hat.2) 0 2 rfl rfl hin hd ?_
      rw [hf]
      exact k H locs ls ⟨hP, hsz, hS, hL, hM1⟩
    · cases h
  case iastore =>
    have hl : len = 1 := hl
    subst hl
    replace h : (match S with | v :: .int i :: .ref a :: S => zPm (pc + 1) L S (zAst M a (zget M a) i v 10) | _ => none) = _ := h
    split at h
    · next v i a S0 =>
      obtain ⟨hm, rfl, rfl, rfl⟩ := zPm_inv h
      obtain ⟨n, f, x, hg, rfl, hin, hM | hM⟩ := zAst_int (by decide) hm
      · obtain ⟨-, rfl⟩ := hM
        exact z_iast hx hb hK (hP a _ hg).2 hin hd (fun H1 j hat1 z1 oq => k H1 (locs ++ [⟨a, j⟩]) ls ⟨hP.set ⟨(hP a _ hg).1, hat1⟩ oq, z1.trans hsz, hS.put z1 oq (hP a _ hg).1, hL, hM1⟩)
      · obtain ⟨q, rfl⟩ := hM
        omega
    · cases h
  case bastore =>
    have hl : len = 1 := hl
    subst hl
    replace h : (match S with | v :: .int i :: .ref a :: S => zPm (pc + 1) L S (zAst M a (zget M a) i v 11) | _ => none) = _ := h
    split at h
    · next v i a S0 =>
      obtain ⟨hm, rfl, rfl, rfl⟩ := zPm_inv h
      obtain ⟨n, f, x, hg, rfl, hin, hM | hM⟩ := zAst_int (by decide) hm
      · obtain ⟨q, rfl⟩ := hM
        omega
      · obtain ⟨-, rfl⟩ := hM
        exact z_zast hx hb hK (hP a _ hg).2 hin hd (fun H1 j hat1 z1 oq => k H1 (locs ++ [⟨a, j⟩]) ls ⟨hP.set ⟨(hP a _ hg).1, hat1⟩ oq, z1.trans hsz, hS.put z1 oq (hP a _ hg).1, hL, hM1⟩)
    · cases h
  case aastore =>
    have hl : len = 1 := hl
    subst hl
    replace h : (match S with | v :: .int i :: .ref a :: S => zPm (pc + 1) L S (zAst M a (zget M a) i v 12) | _ => none) = _ := h
    split at h
    · next v i a S0 =>
      obtain ⟨hm, rfl, rfl, rfl⟩ := zPm_inv h
      obtain ⟨n, f, x, vs, hg, rfl, hin, hgx, rfl⟩ := zAst_ref hm
      exact z_aast hx hb hK (hP a _ hg).2 (hP x _ hgx).2 hin hd (fun H1 j hat1 z1 oq => k H1 (locs ++ [⟨a, j⟩]) ls ⟨hP.set ⟨(hP a _ hg).1, hat1⟩ oq, z1.trans hsz, hS.put z1 oq (hP a _ hg).1, hL, hM1⟩)
    · cases h
  case arraylength =>
    have hl : len = 1 := hl
    subst hl
    replace h : (match S with | .ref a :: S => zPv (pc + 1) L S M (zAlen (zget M a)) | _ => none) = _ := h
    split at h
    · next a S0 =>
      obtain ⟨v, hv, rfl, rfl, rfl, rfl⟩ := zPv_inv h
      obtain ⟨t, n, f, hg, ht, rfl⟩ := zAlen_inv hv
      exact z_alen hx hb hK (hP a _ hg) ht hd (k H locs ls ⟨hP, hsz, hS, hL, hM1⟩)
    · cases h
  case newarray t =>
    have hl : len = 2 := hl
    subst hl
    replace h : (match S with
      | .int n :: S => if ¬ n < 0 ∧ n.toNatClampNeg ≤ 100000 then (match t with
          | .int => zN (pc + 2) L (.ref M.2.1 :: S) (znew M n.toNatClampNeg (.inl (10, n.toNatClampNeg, .inl (fun _ => 0))))
          | .boolean => zN (pc + 2) L (.ref M.2.1 :: S) (znew M n.toNatClampNeg (.inl (11, n.toNatClampNeg, .inl (fun _ => 0))))
          | _ => none)
        else none
      | _ => none) = _ := h
    split at h
    · next n S0 =>
      split at h
      · next hn =>
        split at h
        · obtain ⟨rfl, rfl, rfl, rfl⟩ := zN_inj h
          have hc1 : M.2.1 + 1 ≤ s.heap.size + R.cells := hR.1
          have hc2 : M.2.2.1 + n.toNatClampNeg ≤ n0 + R.slots := hR.2
          exact z_newI hx hb hK (hts _ (zWm zr_138 rfl)) hn.1 hn.2 (by omega) (by omega) hd (fun H1 hat1 z1 oq => by
                have hk := k H1 locs ls ⟨hP.new hsz ⟨Nat.le_trans hB hS.1, hat1⟩ oq, z1.trans (by rw [hsz]; rfl), hS.new z1 oq, hL, hM1⟩
                rw [hsz]
                exact W.cs (by show _ = M.2.1 + 1 - _; omega) (by show _ = M.2.2.1 + _ - _; omega) hk)
        · obtain ⟨rfl, rfl, rfl, rfl⟩ := zN_inj h
          have hc1 : M.2.1 + 1 ≤ s.heap.size + R.cells := hR.1
          have hc2 : M.2.2.1 + n.toNatClampNeg ≤ n0 + R.slots := hR.2
          exact z_newZ hx hb hK (hts _ (zWm zr_254 rfl)) hn.1 hn.2 (by omega) (by omega) hd (fun H1 hat1 z1 oq => by
                have hk := k H1 locs ls ⟨hP.new hsz ⟨Nat.le_trans hB hS.1, hat1⟩ oq, z1.trans (by rw [hsz]; rfl), hS.new z1 oq, hL, hM1⟩
                rw [hsz]
                exact W.cs (by show _ = M.2.1 + 1 - _; omega) (by show _ = M.2.2.1 + _ - _; omega) hk)
        · cases h
      · cases h
    · cases h
  case anewarray ix =>
    have hl : len = 3 := hl
    subst hl
    replace h : (match S with
      | .int n :: S => (match zCp ow ix with
        | some (9, 6, _) => if ¬ n < 0 ∧ n.toNatClampNeg ≤ 100000 then zN (pc + 3) L (.ref M.2.1 :: S) (znew M n.toNatClampNeg (.inl (12, n.toNatClampNeg, .inr (.inr (.inr (.inr (fun _ => none))))))) else none
        | _ => none)
      | _ => none) = _ := h
    split at h
    · next n S0 =>
      split at h
      · next _ hcp =>
        split at h
        · next hn =>
          obtain ⟨_, _, r, hc, -, hw, -, -⟩ := zCp_ok how hcp
          cases hc
          obtain ⟨rfl, rfl, rfl, rfl⟩ := zN_inj h
          have hc1 : M.2.1 + 1 ≤ s.heap.size + R.cells := hR.1
          have hc2 : M.2.2.1 + n.toNatClampNeg ≤ n0 + R.slots := hR.2
          exact z_anew hx hb hK hown (hts _ (zWm hw rfl)) (va_AO.use hAO) hn.1 hn.2 (by omega) (by omega) hd (fun H1 hat1 z1 oq => by
                have hk := k H1 locs ls ⟨hP.new hsz ⟨Nat.le_trans hB hS.1, hat1⟩ oq, z1.trans (by rw [hsz]; rfl), hS.new z1 oq, hL, hM1⟩
                rw [hsz]
                exact W.cs (by show _ = M.2.1 + 1 - _; omega) (by show _ = M.2.2.1 + _ - _; omega) hk)
        · cases h
      · cases h
    · cases h
  case new ix =>
    have hl : len = 3 := hl
    subst hl
    replace h : (match zCp ow ix with
      | some (9, ci, N) => zN (pc + 3) L (.ref M.2.1 :: S) (znew M N (.inr (ci, zDf ci)))
      | _ => none) = _ := h
    split at h
    · next ci N hcp =>
      obtain ⟨_, _, r, hc, hN, hw1, hw2, hw3⟩ := zCp_ok how hcp
      dsimp only at hN hw1 hw2 hw3
      subst hN
      obtain ⟨rfl, rfl, rfl, rfl⟩ := zN_inj h
      have hc1 : M.2.1 + 1 ≤ s.heap.size + R.cells := hR.1
      have hc2 : M.2.2.1 + r.2.2 ≤ n0 + R.slots := hR.2
      exact z_new hx hb hK hts hown hc (hts _ (zWm hw1 rfl)) (hts _ (zWm hw2 rfl)) (hts _ (zWm hw3 rfl)) (by omega) (by omega) hd (fun H1 hat1 z1 oq => by
            have hk := k H1 locs ls ⟨hP.new hsz ⟨Nat.le_trans hB hS.1, hat1⟩ oq, z1.trans (by rw [hsz]; rfl), hS.new z1 oq, hL, hM1⟩
            rw [hsz]
            exact W.cs (by show _ = M.2.1 + 1 - _; omega) (by show _ = M.2.2.1 + _ - _; omega) hk)
    · cases h
  case invokespecial ix =>
    have hl : len = 3 := hl
    subst hl
    replace h : (match zCp ow ix with
      | some (6, a, n) => zCallV (pc + 3) a n L S M false
      | some (7, a, n) => zCallV (pc + 3) a n L S M false
      | some (8, _, _) => zObj (pc + 3) L S M
      | _ => none) = _ := h
    split at h
    · exact absurd h zCallV_no
    · exact absurd h zCallV_no
    · next _ _ hcp =>
      obtain ⟨b, S0, rfl, hn, rfl, rfl, rfl, rfl⟩ := zObj_inv h
      obtain ⟨_, _, hw⟩ := zCp_ok how hcp
      have hcat := zCat4 hn
      exact W.objInit hx hb hown (hts _ (zWm hw rfl)) (hts _ (zWm zr_60 rfl)) (hts _ (zWm zr_61 rfl)) rfl (by rw [hml, ← hL.2.1]) rfl hd hRf.1 (by show 2 * 0 + _ + 12 ≤ _; omega) (k H locs ls ⟨hP, hsz, hS, hL, hM1⟩)
    · cases h
  case invokestatic ix =>
    replace h : (match zCp ow ix with
      | some (4, a, n) => zCallS (pc + 3) a n L S M
      | some (5, a, n) => zCallS (pc + 3) a n L S M
      | _ => none) = _ := h
    split at h
    · exact absurd h zCallS_no
    · exact absurd h zCallS_no
    · cases h
  case invokevirtual ix =>
    replace h : (match zCp ow ix with
      | some (2, a, n) => zCallV (pc + 3) a n L S M true
      | some (3, a, n) => zCallV (pc + 3) a n L S M true
      | _ => none) = _ := h
    split at h
    · exact absurd h zCallV_no
    · exact absurd h zCallV_no
    · cases h
  case ireturn => exact absurd h zRet_no
  case lreturn => exact absurd h zRet_no
  case return_ => exact absurd h zRetV_no
  all_goals exact (Option.some_ne_none _ h.symm).elim
end ZS
