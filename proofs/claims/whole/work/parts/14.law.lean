/-! the law's frame (out of the skeleton), and its start out of one run of our machine -/
/-! THE CLAIM OUT OF ONE WALK OF THE LAW'S BODY. Your part is whole_start (and what it stands on); all else here is the same for every law, but numbers. -/
def R_law : String := "StoneFurrowsLaw"
def lw_P (b : Addr) (xs : List Int32) (args : Array Value) (s : State) : Prop := args = #[.ref b] ∧ s.IntsAt b xs ∧ xs.length ≤ 3072 ∧ (Jvm.Cond.and given_1 narrow_1).before args s = true
def lw_Q (_ : Array Value) (s : State) (o : Outcome) (t : State) : Prop := o = .returned (some (.int 1)) ∧ Framed s o t [] 600000 7302250
def lw_Z (below : List Frame) (a : Array Value) (s : State) : State → Prop := fun t => ∃ o, t.status = .running ∧ Ended t below o ∧ lw_Q a s o t
/-- the law's own end, with 1 on the stack, nothing written that was there before, its room as the claim has it -/
theorem lw_ret {p : Program} {l : Launch} {e : Env} {s : State} {m : MethodId} {below : List Frame} {meth : Method} {c : Code} {b : Nat} (hx : p.tables.exec = Jvm.exec) (hb : c.code = code) (hr : meth.sig.returnType = ret) (hlocks : meth.locks = false) {pc : Nat} {H : Heap} {ls : Array Slot} (hdg : decode code pc = .ok (.ireturn, 1)) : W p l e room_1 s m #[Value.ref b] below meth c H [] 600000 7302250 (lw_Z below #[Value.ref b] s) (F0 m pc ls [.int 1]) := by
  intro T hT X
  obtain ⟨fs, hret, hrun, hended, hW, hframe⟩ := X.leave (v := some (.int 1)) (hlocks := hlocks) (fun h => by rw [hr] at h; cases h)
  have hmeth' : T.vm.method? m = some meth := X.method'
  refine ⟨T.setFrames fs, ?_, .returned (some (.int 1)), hrun, hended, rfl, ⟨_, rfl⟩, hW, hframe⟩
  jvm_step X.here [X.here.top, hx, hb, hdg, hmeth', hr, ret, narrow_b1]
  (try refine ⟨rfl, ?_⟩); (try refine ⟨rfl, ?_⟩)
  first | (intro acts; rw [hret _ acts rfl rfl rfl]) | rw [hret _ _ rfl rfl rfl]
  exact Steps.refl _
/-- what holds at the law's entry: the machine, the code, the tables' words (any of lw_tbl by 'hts w (by decide +kernel)'), the script of L ints xs at the cell b, what the Statement gives of the start (any of its parts by flat_of_before) -/
def lw_At (p : Program) (s : State) (m : MethodId) (meth : Method) (c : Code) (b L : Nat) (xs : Nat → Int32) : Prop :=
  p.tables.exec = Jvm.exec ∧ c.code = code ∧ meth.sig.returnType = ret ∧ c.maxLocals = 4 ∧ s.vm.findClass R_law = some m.cls ∧ (∀ w ∈ lw_tbl, w.before #[Value.ref b] s = true) ∧ va_X b L xs s s.heap ∧ b < s.heap.size ∧ meth.locks = false ∧ (Jvm.Cond.and given_1 narrow_1).before #[Value.ref b] s = true
def zSl : Nat → Int32 := fun j => match j with
  | 0 => 100
  | 1 => 97
  | 2 => 87
  | 3 => 71
  | 4 => 50
  | 5 => 26
  | 6 => 0
  | 7 => -26
  | 8 => -50
  | 9 => -71
  | 10 => -87
  | 11 => -97
  | 12 => -100
  | _ => 0
theorem zArr {s : State} {cA : ClassId} {kA : Class} {comp : ClassId} {ty : FieldType} (h2 : s.vm.classes[cA]? = some kA) (h3 : kA.kind = .array comp ty) : ArrOfT s cA ty := fun n z => ⟨fun k h => (by cases h), kA, h2, comp, h3⟩
/-- our machine's state at the law's start -/
def zMz (aS b L sz : Nat) (xs : Nat → Int32) : zM := (aS, sz, 0, fun a => if a = b then some (.inl (13, L, .inl xs)) else if a = aS then some (.inl (13, 13, .inl zSl)) else none)
theorem zLenS {args : Array Value} {first s : State} {o : Option Outcome} {idx : List Nat} {t : Term} {v : Value} (h : (Term.length t).eval args first o idx s = some v) : ∃ a cell, t.eval args first o idx s = some (.ref a) ∧ s.arrayAt? a = some cell ∧ cell.slots.size < 2 ^ 31 := by
  simp only [Term.eval, Option.bind_eq_bind] at h
  cases ht : t.eval args first o idx s with
  | none => simp [ht] at h
  | some x =>
    cases x <;> simp [ht] at h
    case ref a =>
      obtain ⟨cell, hcell, h⟩ := Option.bind_eq_some_iff.mp h
      by_cases hn : cell.slots.size < 2147483648
      · exact ⟨a, cell, rfl, hcell, hn⟩
      · rw [if_neg hn] at h; cases h
set_option maxHeartbeats 4000000 in
theorem z_slopes {s : State} {b : Nat} (hgv : (Jvm.Cond.and given_1 narrow_1).before #[Value.ref b] s = true) : ∃ aS, (Term.static "StoneFurrows$Hanging" "SLOPES" "[I").eval #[Value.ref b] s none [] s = some (.ref aS) ∧ va_X aS 13 zSl s s.heap ∧ aS ≠ b := by
  have hs := flat_of_before _ hgv
  have harr : (Cond.arrayOf (.static "StoneFurrows$Hanging" "SLOPES" "[I") .int).before #[Value.ref b] s = true := hs _ (by decide +kernel)
  have hlen := va_eqt (hs (Cond.eq (.length (.static "StoneFurrows$Hanging" "SLOPES" "[I")) (.int 13)) (by decide +kernel))
  have hne : (Cond.not (Cond.eq (.arg 0) (.static "StoneFurrows$Hanging" "SLOPES" "[I"))).before #[Value.ref b] s = true := hs _ (by decide +kernel)
  have h0 := va_eqt (hs (Cond.eq (.elem (.static "StoneFurrows$Hanging" "SLOPES" "[I") (.int 0)) (.int (100))) (by decide +kernel))
  have h1 := va_eqt (hs (Cond.eq (.elem (.static "StoneFurrows$Hanging" "SLOPES" "[I") (.int 1)) (.int (97))) (by decide +kernel))
  have h2 := va_eqt (hs (Cond.eq (.elem (.static "StoneFurrows$Hanging" "SLOPES" "[I") (.int 2)) (.int (87))) (by decide +kernel))
  have h3 := va_eqt (hs (Cond.eq (.elem (.static "StoneFurrows$Hanging" "SLOPES" "[I") (.int 3)) (.int (71))) (by decide +kernel))
  have h4 := va_eqt (hs (Cond.eq (.elem (.static "StoneFurrows$Hanging" "SLOPES" "[I") (.int 4)) (.int (50))) (by decide +kernel))
  have h5 := va_eqt (hs (Cond.eq (.elem (.static "StoneFurrows$Hanging" "SLOPES" "[I") (.int 5)) (.int (26))) (by decide +kernel))
  have h6 := va_eqt (hs (Cond.eq (.elem (.static "StoneFurrows$Hanging" "SLOPES" "[I") (.int 6)) (.int (0))) (by decide +kernel))
  have h7 := va_eqt (hs (Cond.eq (.elem (.static "StoneFurrows$Hanging" "SLOPES" "[I") (.int 7)) (.int (-26))) (by decide +kernel))
  have h8 := va_eqt (hs (Cond.eq (.elem (.static "StoneFurrows$Hanging" "SLOPES" "[I") (.int 8)) (.int (-50))) (by decide +kernel))
  have h9 := va_eqt (hs (Cond.eq (.elem (.static "StoneFurrows$Hanging" "SLOPES" "[I") (.int 9)) (.int (-71))) (by decide +kernel))
  have h10 := va_eqt (hs (Cond.eq (.elem (.static "StoneFurrows$Hanging" "SLOPES" "[I") (.int 10)) (.int (-87))) (by decide +kernel))
  have h11 := va_eqt (hs (Cond.eq (.elem (.static "StoneFurrows$Hanging" "SLOPES" "[I") (.int 11)) (.int (-97))) (by decide +kernel))
  have h12 := va_eqt (hs (Cond.eq (.elem (.static "StoneFurrows$Hanging" "SLOPES" "[I") (.int 12)) (.int (-100))) (by decide +kernel))
  obtain ⟨t, ht, cell, c1, c2, c3, c4, c5, c6, -⟩ := va_Tof (ty := .int) (N := 13) (f := fun j => .int (zSl j)) (A := fun _ => False) (by decide) harr hlen (fun j hj => by
    match j, hj with
    | 0, _ => exact h0
    | 1, _ => exact h1
    | 2, _ => exact h2
    | 3, _ => exact h3
    | 4, _ => exact h4
    | 5, _ => exact h5
    | 6, _ => exact h6
    | 7, _ => exact h7
    | 8, _ => exact h8
    | 9, _ => exact h9
    | 10, _ => exact h10
    | 11, _ => exact h11
    | 12, _ => exact h12
    | j + 13, hj => omega) (fun _ _ h => h)
  obtain ⟨t2, cell2, q1, q2, q4⟩ := zLenS hlen
  cases ht.symm.trans q1
  obtain ⟨q5, -, -, -⟩ := State.arrayAt?_spec q2
  cases c1.symm.trans q5
  have hsz : cell.slots.size = 13 := by
    have h1 : cell.slots.size.toInt32.toInt = 13 := by rw [c5]; rfl
    have h2 : cell.slots.size.toInt32.toInt = (cell.slots.size : Int) := Int32.toInt_ofNat_small q4
    omega
  refine ⟨t, ht, ⟨cell, c1, c2, c3, hsz, c6⟩, fun hb => ?_⟩
  subst hb
  have e1 : (Term.arg 0).eval #[Value.ref t] s none [] s = some (.ref t) := rfl
  simp [Cond.before, Cond.holds, Cond.value, e1, ht] at hne
set_option maxHeartbeats 4000000 in
theorem z_world {s : State} {b : Nat} (hts : ∀ w ∈ lw_tbl, w.before #[Value.ref b] s = true) : ∃ (D : va_G) (ty : Nat → ClassId), va_K D vwCl (zTys ty) s ∧ zNk s ∧ va_AO "StoneFurrows$Stone" s := by
  have hW : ∀ w ∈ zW, w.before #[Value.ref b] s = true := fun w hw => hts w (zGoodW hw).1
  obtain ⟨c0, i0, k0⟩ := u_known (C := RX0) (T := TX0) (N := 2) (n := 2) hW (zcl_ok (ci := 0) rfl).1 (hts _ zr_256)
  obtain ⟨c1, i1, k1⟩ := u_known (C := RX1) (T := TX1) (N := 7) (n := 7) hW (zcl_ok (ci := 1) rfl).1 (hts _ zr_86)
  obtain ⟨c2, i2, k2⟩ := u_known (C := RX2) (T := TX2) (N := 4) (n := 4) hW (zcl_ok (ci := 2) rfl).1 (hts _ zr_65)
  obtain ⟨c3, i3, k3⟩ := u_known (C := RX3) (T := TX3) (N := 3) (n := 3) hW (zcl_ok (ci := 3) rfl).1 (hts _ zr_140)
  obtain ⟨c4, i4, k4⟩ := u_known (C := RX4) (T := TX4) (N := 5) (n := 5) hW (zcl_ok (ci := 4) rfl).1 (hts _ zr_157)
  obtain ⟨c5, i5, k5⟩ := u_known (C := RX5) (T := TX5) (N := 5) (n := 5) hW (zcl_ok (ci := 5) rfl).1 (hts _ zr_181)
  obtain ⟨c6, i6, k6⟩ := u_known (C := RX6) (T := TX6) (N := 5) (n := 5) hW (zcl_ok (ci := 6) rfl).1 (hts _ zr_203)
  obtain ⟨c7, i7, k7⟩ := u_known (C := RX7) (T := TX7) (N := 5) (n := 5) hW (zcl_ok (ci := 7) rfl).1 (hts _ zr_114)
  obtain ⟨c8, i8, k8⟩ := u_known (C := RX8) (T := TX8) (N := 13) (n := 13) hW (zcl_ok (ci := 8) rfl).1 (hts _ zr_55)
  obtain ⟨c9, i9, k9⟩ := u_known (C := RX9) (T := TX9) (N := 38) (n := 38) hW (zcl_ok (ci := 9) rfl).1 (hts _ zr_883)
  obtain ⟨cI, kI, pI, f1, f2, f3⟩ := Cond.arrayClass_spec (hts _ zr_138)
  obtain ⟨cZ, kZ, pZ, g1, g2, g3⟩ := Cond.arrayClass_spec (hts _ zr_254)
  obtain ⟨pO, cO, kO, o1, -, o3, o4, o5⟩ := Cond.arrayOver_spec (hts _ zr_63)
  refine ⟨(fun k => match k with
    | 0 => c0
    | 1 => c1
    | 2 => c2
    | 3 => c3
    | 4 => c4
    | 5 => c5
    | 6 => c6
    | 7 => c7
    | 8 => c8
    | _ => c9, fun k => match k with
    | 0 => i0
    | 1 => i1
    | 2 => i2
    | 3 => i3
    | 4 => i4
    | 5 => i5
    | 6 => i6
    | 7 => i7
    | 8 => i8
    | _ => i9), (fun t => match t with
    | 10 => cI
    | 11 => cZ
    | _ => cO), ⟨fun k q hq => ?_, fun k q hq => ?_⟩, fun w hw hq => ?_, va_AO.of (hts _ zr_63)⟩
  · match k, hq with
    | 0, hq => cases hq; exact k0
    | 1, hq => cases hq; exact k1
    | 2, hq => cases hq; exact k2
    | 3, hq => cases hq; exact k3
    | 4, hq => cases hq; exact k4
    | 5, hq => cases hq; exact k5
    | 6, hq => cases hq; exact k6
    | 7, hq => cases hq; exact k7
    | 8, hq => cases hq; exact k8
    | 9, hq => cases hq; exact k9
    | k + 10, hq => simp [vwCl] at hq
  · match k, hq with
    | 0, hq => cases hq; exact ⟨zArr f2 f3, f1⟩
    | 1, hq => cases hq; exact ⟨zArr g2 g3, g1⟩
    | 2, hq => cases hq; exact ⟨zArr o3 o4, kO, pO, o3, o4, o1, o5⟩
    | k + 3, hq => simp [zTys] at hq
  · cases w <;> first | exact va_Nw.of rfl (hts _ hw) | cases hq
theorem zMz_get {aS b L sz : Nat} {xs : Nat → Int32} {a : Nat} {c : zE} (h : zget (zMz aS b L sz xs) a = some c) : (a = b ∧ c = .inl (13, L, .inl xs)) ∨ (a = aS ∧ c = .inl (13, 13, .inl zSl)) := by
  unfold zget zMz at h
  dsimp only at h
  split at h
  · next h1 => cases h; exact Or.inl ⟨h1, rfl⟩
  · split at h
    · next h1 => cases h; exact Or.inr ⟨h1, rfl⟩
    · cases h
set_option maxHeartbeats 4000000 in
/-- the law's start, out of one run of our machine -/
theorem z_law {p : Program} {e : Env} {s : State} {m : MethodId} {below : List Frame} {meth : Method} {c : Code} (l : Launch) {b L : Nat} {xs : Nat → Int32} (C0 : lw_At p s m meth c b L xs)
    (hE : ∀ aS sz : Nat, aS ≠ b → aS < sz → b < sz → Ev 60 223 0 [some (.ref b), none, none, none] [] (zMz aS b L sz xs) (fun r M' => r = some (.int 1) ∧ M'.2.1 ≤ sz + 600000 ∧ M'.2.2.1 ≤ 7302250)) : W p l e room_1 s m #[Value.ref b] below meth c s.heap [] 0 0 (lw_Z below #[Value.ref b] s) (entryFrame m ([Value.ref b] : List Value).toArray 4) := by
  obtain ⟨hx, hb, hr, hml, hown, hts, hX, hbl, hlocks, hgv⟩ := id C0
  obtain ⟨aS, ht, hXS, hne⟩ := z_slopes hgv
  obtain ⟨D, ty, hK, hNk, hAO⟩ := z_world hts
  have hSl : aS < s.heap.size := by obtain ⟨scr, h1, -⟩ := hXS; exact (Array.getElem?_eq_some_iff.mp h1).1
  have hZ : va_Z "StoneFurrows$Hanging" "SLOPES" "[I" (.ref aS) (fun q => s.heap.size ≤ q) s s.heap := va_Zof (hts _ zr_477) (hts _ zr_44) ht (fun a h1 h2 => absurd h1 (Nat.not_lt.mpr h2))
  obtain ⟨n, hR⟩ := hE aS s.heap.size hne hSl hbl
  have C : zCx p s m #[Value.ref b] meth c zm_223.2.1 4 s.heap.size aS D ty (zow 223) (zrt 223) (zkd 223 == 2) := ⟨hx, hb, hml, ⟨RL, rfl, hown⟩, fun w hw => hts w (zGoodW hw).1, hr, hlocks, fun h => absurd h (by decide), hK, hNk, hAO, Nat.le_refl _, hZ⟩
  have hP : zRep s.heap.size D ty s s.heap (zMz aS b L s.heap.size xs) := by
    intro a c hc
    rcases zMz_get hc with ⟨rfl, rfl⟩ | ⟨rfl, rfl⟩
    · exact ⟨L, xs, rfl, hX⟩
    · exact ⟨13, zSl, rfl, hXS⟩
  have hat := z_walk (n0 := 0) (R := room_1) (Q := lw_Z below #[Value.ref b] s) (l := l) (e := e) (below := below) (d := 60) zmr_223 C (fun a As M r M' h => zC_met l _ D ty aS 60 a As M r M' h) ⟨by decide, by decide⟩
    (fun pc L1 S M1 r1 ho hk => by
      obtain ⟨rfl, hk1, hk2⟩ := hk
      intro H locs ls I
      unfold zOut at ho
      split at ho
      · next x hxI =>
        obtain ⟨ins, len⟩ := x
        obtain ⟨hd, hl⟩ := zI_ok zmr_223 hxI
        obtain ⟨hi, -⟩ := zStep_ret ho
        rcases hi with rfl | rfl | rfl
        · obtain rfl : len = 1 := hl
          obtain ⟨v, rfl, -, hv, -⟩ := zRet_inv ho
          cases hv
          refine va_forget (fun q hq => I.2.2.1.2.2 q hq) ?_
          refine W.widen (k := 600000) (n := 7302250) (by omega) (by omega) ?_
          exact lw_ret hx hb hr hlocks hd
        · obtain ⟨v, rfl, hv, -⟩ := zRet_inv ho
          rcases zRt_inv hv with ⟨h0, -⟩ | ⟨h0, -⟩ | ⟨-, h1, -⟩
          · cases h0
          · cases h0
          · cases h1
        · obtain ⟨-, h1, -⟩ := zRetV_inv ho
          cases h1
      · cases ho)
    (fun r' M'' hk => ⟨hk.2.1, by show M''.2.2.1 ≤ 0 + 7302250; have := hk.2.2; omega⟩) n 0 _ _ _ (Nat.zero_le _) hR
  have hl := lv_entry ([.ref b]) (n := 4) (Nat.le_of_ble_eq_true rfl)
  rw [lg_entry_eq]
  have hfin := hat s.heap [] _ ⟨hP, rfl, va_S.rf, zHas_entry (As := [.ref b]) (n := 4) (show 1 ≤ 4 by decide), rfl⟩
  have e1 : (zMz aS b L s.heap.size xs).2.1 = s.heap.size := rfl
  have e2 : (zMz aS b L s.heap.size xs).2.2.1 = 0 := rfl
  rw [e1, e2, Nat.sub_self, Nat.sub_self] at hfin
  exact hfin
