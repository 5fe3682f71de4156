/-! calls and answers; a run of our machine is a contract of the machine -/
theorem zRep.moved {B : Nat} {D : va_G} {ty : Nat → ClassId} {s t : State} {H : Heap} {M : zM} (hvm : s.vm.Alike t.vm) (h : zRep B D ty s H M) : zRep B D ty t H M := by
  intro a c hc
  have h1 := h a c hc
  cases c with
  | inr o => exact h1
  | inl x =>
    unfold zat at h1 ⊢
    dsimp only at h1 ⊢
    split
    · next hx => rw [if_pos hx] at h1; obtain ⟨n, f, h1, h2⟩ := h1; exact ⟨n, f, h1, h2.moved hvm⟩
    · next hx => rw [if_neg hx] at h1; exact h1
theorem zNk.same {s t : State} (h : s.vm = t.vm) (hN : zNk s) : zNk t := by
  intro w hw hq
  have h1 := hN w hw hq
  cases w <;> first | exact va_Nw.same rfl h h1 | cases hq
theorem zNk.warm {s t : State} (h : s.WarmedH t.vm) (hN : zNk s) : zNk t := by
  intro w hw hq
  have h1 := hN w hw hq
  cases w with
  | fieldLinkNest a i b n d x => exact va_Nw.warmF h h1
  | methodLinkNest a i b x => exact va_Nw.warmM h h1
  | _ => cases hq
/-- what holds at a method's entry -/
def zPre (B : Nat) (D : va_G) (ty : Nat → ClassId) (aS : Nat) (M : zM) : State → Prop := fun U => zRep B D ty U U.heap M ∧ U.heap.size = M.2.1 ∧ va_K D vwCl (zTys ty) U ∧ zNk U ∧ va_AO "StoneFurrows$Stone" U ∧ B ≤ U.heap.size ∧ M.1 = aS ∧ va_Z "StoneFurrows$Hanging" "SLOPES" "[I" (.ref aS) (fun q => B ≤ q) U U.heap
def zQc (B : Nat) (D : va_G) (ty : Nat → ClassId) (r : Option Value) (M' : zM) : Array Value → State → Outcome → State → Prop := fun _ st oc t => oc = .returned r ∧ zRep B D ty t t.heap M' ∧ t.heap.size = M'.2.1 ∧ va_F (fun q => B ≤ q) st t
def zRm (d mc ms : Nat) : Room := { frames := d, cells := mc, slots := ms, locals := 40 * d }
def zMet (l : Launch) (B : Nat) (D : va_G) (ty : Nat → ClassId) (aS d a : Nat) (As : List Value) (M : zM) (r : Option Value) (M' : zM) : Prop :=
  ∀ rm, zMeth[a]? = some rm → rm.2.2.2.2.1 ≠ 10 → Met l rm.1 (Cond.code rm.1 rm.2.1 rm.2.2.1 rm.2.2.2.1 :: zW) (zRm d (M'.2.1 - M.2.1) (M'.2.2.1 - M.2.2.1)) (va_Pc As (zPre B D ty aS M)) (zQc B D ty r M') (M'.2.1 - M.2.1) (M'.2.2.1 - M.2.2.1) (fun q => B ≤ q)
theorem zBlind {B : Nat} {D : va_G} {ty : Nat → ClassId} {aS : Nat} {As : List Value} {M : zM} : FrameBlind (va_Pc As (zPre B D ty aS M)) := by
  intro a U g mk h
  obtain ⟨h0, h1, h2, h3, h4, h5, h6, h7, h8⟩ := h
  exact ⟨h0, h1.moved (Vm.Alike.refl U.vm), h2, va_K.moved (Vm.Alike.refl U.vm) h3, zNk.same (s := U) rfl h4, va_AO.moved (Vm.Alike.refl U.vm) h5, h6, h7, va_Z.moved (Vm.Alike.refl U.vm) h8⟩
theorem zGoodW {w : Cond} (h : w ∈ zW) : w ∈ zTB ∧ goodWord w = true := List.mem_filter.mp h
theorem zGoodIn {y : MethodName} {cc : ByteArray} {ml : Nat} {rt : Option FieldType} (h : Cond.code y cc ml rt ∈ zTB) : GoodIn zW (Cond.code y cc ml rt :: zW) := by
  intro w hw
  rcases List.mem_cons.mp hw with rfl | hw
  · exact ⟨zWm h rfl, good_of_word rfl⟩
  · exact ⟨hw, good_of_word (zGoodW hw).2⟩
/-- no call, no answer -/
def zNC : zO → Prop
  | some (.inr _) => False
  | _ => True
theorem zq_N {q : Nat} {L : zL} {S : List Value} {M : zM} : zNC (zN q L S M) := trivial
theorem zq_new {q n : Nat} {c : zE} {L : zL} {S : List Value} {M : zM} : zNC (zN q L S (znew M n c)) := trivial
theorem zq_J {pc : Nat} {off : Int} {L : zL} {S : List Value} {M : zM} : zNC (zJ pc off L S M) := by
  unfold zJ; split
  · exact zq_N
  · trivial
theorem zq_Ldi {q i : Nat} {L : zL} {S : List Value} {M : zM} : zNC (zLdi q L i S M) := by
  unfold zLdi; split
  · exact zq_N
  · trivial
theorem zq_Lda {q i : Nat} {L : zL} {S : List Value} {M : zM} : zNC (zLda q L i S M) := by
  unfold zLda; split
  · exact zq_N
  · trivial
theorem zq_Ldl {q i : Nat} {L : zL} {S : List Value} {M : zM} : zNC (zLdl q L i S M) := by
  unfold zLdl; split
  · exact zq_N
  · trivial
theorem zq_Sti {q i : Nat} {L : zL} {S : List Value} {M : zM} : zNC (zSti q L i S M) := by
  unfold zSti; split
  · split
    · exact zq_N
    · trivial
  · trivial
theorem zq_Sta {q i : Nat} {L : zL} {S : List Value} {M : zM} : zNC (zSta q L i S M) := by
  unfold zSta; split
  · split
    · exact zq_N
    · trivial
  · trivial
theorem zq_Stl {q i : Nat} {L : zL} {S : List Value} {M : zM} : zNC (zStl q L i S M) := by
  unfold zStl; split
  · split
    · exact zq_N
    · trivial
  · trivial
theorem zq_II {q : Nat} {L : zL} {S : List Value} {M : zM} {f : Int32 → Int32 → Int32} : zNC (zII q L S M f) := by
  unfold zII; split
  · exact zq_N
  · trivial
theorem zq_DV {q : Nat} {L : zL} {S : List Value} {M : zM} {f : Int32 → Int32 → Int32} : zNC (zDV q L S M f) := by
  unfold zDV; split
  · split
    · trivial
    · exact zq_N
  · trivial
theorem zq_LL {q : Nat} {L : zL} {S : List Value} {M : zM} {f : Int64 → Int64 → Int64} : zNC (zLL q L S M f) := by
  unfold zLL; split
  · exact zq_N
  · trivial
theorem zq_Ic {cd : Jvm.ClassFile.Cond} {pc : Nat} {off : Int} {L : zL} {S : List Value} {M : zM} : zNC (zIc cd pc off L S M) := by
  unfold zIc
  repeat' split
  all_goals first | exact zq_N | exact zq_J | trivial
theorem zq_Pv {q : Nat} {L : zL} {S : List Value} {M : zM} {o : Option Value} : zNC (zPv q L S M o) := by
  unfold zPv; split
  · exact zq_N
  · trivial
theorem zq_Pma {q a k : Nat} {L : zL} {S : List Value} {M : zM} {o : Option zE} {i : Int32} {v : Value} : zNC (zPm q L S (zAst M a o i v k)) := by
  unfold zPm; split
  · trivial
  · trivial
theorem zq_Pmf {q a ci k : Nat} {L : zL} {S : List Value} {M : zM} {o : Option zE} {v : Value} : zNC (zPm q L S (zPf M a o ci k v)) := by
  unfold zPm; split
  · trivial
  · trivial
theorem zq_Obj {q : Nat} {L : zL} {S : List Value} {M : zM} : zNC (zObj q L S M) := by
  unfold zObj
  repeat' split
  all_goals first | exact zq_N | trivial
set_option maxHeartbeats 4000000 in
theorem zStep_nc {ow : Nat} {rt : Option FieldType} {ini : Bool} {ins : Instr} {pc : Nat} {L : zL} {S : List Value} {M : zM} : (∀ ix, ins ≠ .invokestatic ix) → (∀ ix, ins ≠ .invokevirtual ix) → (∀ ix, ins ≠ .invokespecial ix) → ins ≠ .ireturn → ins ≠ .lreturn → ins ≠ .return_ → zNC (zStep ow rt ini ins pc L S M) := by
  intro h1 h2 h3 h4 h5 h6
  unfold zStep
  repeat' split
  all_goals first | exact zq_N | exact zq_J | exact zq_new | exact zq_Ldi | exact zq_Lda | exact zq_Ldl | exact zq_Sti | exact zq_Sta | exact zq_Stl | exact zq_II | exact zq_DV | exact zq_LL | exact zq_Ic | exact zq_Pv | exact zq_Pma | exact zq_Pmf | exact zq_Obj | trivial | exact absurd rfl (h1 _) | exact absurd rfl (h2 _) | exact absurd rfl (h3 _) | exact absurd rfl h4 | exact absurd rfl h5 | exact absurd rfl h6
theorem zNoCall {ow : Nat} {rt : Option FieldType} {ini : Bool} {ins : Instr} {pc : Nat} {L : zL} {S : List Value} {M : zM} {x : (Nat × List Value × zM × Nat × zL × List Value) ⊕ (Option Value × zM)} (h1 : ∀ ix, ins ≠ .invokestatic ix) (h2 : ∀ ix, ins ≠ .invokevirtual ix) (h3 : ∀ ix, ins ≠ .invokespecial ix) (h4 : ins ≠ .ireturn) (h5 : ins ≠ .lreturn) (h6 : ins ≠ .return_) : ¬ zStep ow rt ini ins pc L S M = some (.inr x) := by
  intro h
  have g := zStep_nc (ow := ow) (rt := rt) (ini := ini) (pc := pc) (L := L) (S := S) (M := M) h1 h2 h3 h4 h5 h6
  rw [h] at g
  exact g
theorem zRet_nc {lg : Bool} {rt : Option FieldType} {S : List Value} {M : zM} {x : Nat × List Value × zM × Nat × zL × List Value} : ¬ zRet lg rt S M = some (.inr (.inl x)) := by
  intro h
  unfold zRet at h
  repeat' split at h
  all_goals cases h
theorem zRetV_nc {rt : Option FieldType} {S : List Value} {M : zM} {x : Nat × List Value × zM × Nat × zL × List Value} : ¬ zRetV rt S M = some (.inr (.inl x)) := by
  intro h
  unfold zRetV at h
  split at h <;> cases h
section ZT
variable {p : Program} {l : Launch} {e : Env} {R : Room} {s : State} {m : MethodId} {args : Array Value} {below : List Frame} {meth : Method} {c : Code} {Q : State → Prop}
variable {cc : ByteArray} {nL B aS n0 : Nat} {D : va_G} {ty : Nat → ClassId} {ow : Nat} {rt : Option FieldType} {ini : Bool}
theorem z_use {H : Heap} {locs : List Loc} {cells slots mc ms pc : Nat} {ls : Array Slot} {st0 rest : List Value} {a : Array Value} {r : Option Value} {M' : zM} (hr : va_Run p l e R s m args below meth c H locs cells slots mc ms (F0 m pc ls st0) rest (zQc B D ty r M' a) (fun q => B ≤ q)) (hS : va_S (fun q => B ≤ q) s.heap H locs)
    (kk : ∀ (t : State) (H1 : Heap) (locs1 : List Loc), t.heap = H1 → s.vm.Alike t.vm → zRep B D ty t H1 M' → H1.size = M'.2.1 → va_S (fun q => B ≤ q) s.heap H1 locs1 → W p l e R s m args below meth c H1 locs1 (cells + mc) (slots + ms) Q (F0 m (pc + 3) ls (r.toList ++ rest))) : W p l e R s m args below meth c H locs cells slots Q (F0 m pc ls st0) := by
  intro T hT X
  obtain ⟨v, st₀, t, T', L, h0, X', hL, e1, e2, ⟨hv, hp, hsz, hz, hk⟩, st⟩ := hr T hT X
  cases hv
  rw [h0] at hz hk
  obtain ⟨t2, a1, b1⟩ := kk t T'.heap (locs ++ L) e1.symm (by rw [← e2]; exact X'.warmed.alike) (by rw [e1]; exact hp) (by rw [e1]; exact hsz)
    ⟨Nat.le_trans hS.1 (by rw [e1]; exact hz), fun q h1 h2 => by rw [e1, hk q (Nat.lt_of_lt_of_le h1 hS.1) h2]; exact hS.2.1 q h1 h2, fun q hq => by
      rcases List.mem_append.mp hq with h | h
      · exact hS.2.2 q h
      · exact hL q h⟩ T' rfl X'
  exact ⟨t2, st t2 a1, b1⟩
theorem zPre_of (C : zCx p s m args meth c cc nL B aS D ty ow rt ini) {M : zM} {H : Heap} {locs : List Loc} {ls : Array Slot} {L : zL} (I : zInv B D ty s nL aS M H locs ls L) : ∀ U : State, U.heap = H → s.WarmedH U.vm → zPre B D ty aS M U := by
  obtain ⟨hx, hb, hml, -, hts, hrt, hlk, hini, hK, hNk, hAO, hB, hZ⟩ := C
  obtain ⟨hP, hsz, hS, hL, hM1⟩ := I
  intro U hU hW
  refine ⟨?_, ?_, va_K.moved hW.alike hK, hNk.warm hW, va_AO.moved hW.alike hAO, ?_, hM1, ?_⟩
  · rw [hU]; exact hP.moved hW.alike
  · rw [hU]; exact hsz
  · rw [hU]; exact Nat.le_trans hB hS.1
  · rw [hU]; exact (hZ.kept (fun a h1 h2 => hS.2.1 a h1 h2)).moved hW.alike
theorem zCallS_inv {q a n : Nat} {L : zL} {S : List Value} {M : zM} {a' : Nat} {As : List Value} {M2 : zM} {pc' : Nat} {L' : zL} {S' : List Value} (h : zCallS q a n L S M = some (.inr (.inl (a', As, M2, pc', L', S')))) : a = a' ∧ (S.take n).reverse = As ∧ M = M2 ∧ q = pc' ∧ L = L' ∧ S.drop n = S' ∧ n ≤ S.length ∧ S'.length ≤ 4 := by
  unfold zCallS at h
  split at h
  · next hn => cases h; exact ⟨rfl, rfl, rfl, rfl, rfl, rfl, hn.1, by rw [List.length_drop]; omega⟩
  · cases h
theorem zCallV_inv {q a n : Nat} {L : zL} {S : List Value} {M : zM} {chk : Bool} {a' : Nat} {As : List Value} {M2 : zM} {pc' : Nat} {L' : zL} {S' : List Value} (h : zCallV q a n L S M chk = some (.inr (.inl (a', As, M2, pc', L', S')))) : ∃ b, a = a' ∧ .ref b :: (S.take n).reverse = As ∧ M = M2 ∧ q = pc' ∧ L = L' ∧ S.drop n = .ref b :: S' ∧ n ≤ S.length ∧ S'.length ≤ 4 ∧ (chk = true → zis (zget M b) (zow a) = true) := by
  unfold zCallV at h
  split at h
  · next b S0 hS0 =>
    split at h
    · next hn =>
      split at h
      · next hc => cases h; exact ⟨b, rfl, rfl, rfl, rfl, rfl, hS0, hn.2, hn.1, hc⟩
      · cases h
    · cases h
  · cases h
theorem zNo1 {q : Nat} {L : zL} {S : List Value} {M : zM} {x : (Nat × List Value × zM × Nat × zL × List Value) ⊕ (Option Value × zM)} : ¬ zN q L S M = some (.inr x) := by intro h; unfold zN at h; cases h
theorem zow_ok {a : Nat} {r : zMe} (h : zMeth[a]? = some r) : zow a = r.2.2.2.2.1 := by unfold zow; rw [h]
set_option maxHeartbeats 4000000 in
/-- a call -/
theorem z_call (C : zCx p s m args meth c cc nL B aS D ty ow rt ini) {ins : Instr} {len pc : Nat} {L : zL} {S : List Value} {M : zM} (hd : decode cc pc = .ok (ins, len)) (hl : len = zLen ins len) {a : Nat} {As : List Value} {M2 : zM} {pc' : Nat} {L' : zL} {S' : List Value} (h : zStep ow rt ini ins pc L S M = some (.inr (.inl (a, As, M2, pc', L', S')))) {d : Nat} {r : Option Value} {M' : zM} (hM : zMet l B D ty aS d a As M r M') (hsz1 : M.2.1 ≤ M'.2.1) (hns1 : M.2.2.1 ≤ M'.2.2.1) (hM1' : M'.1 = M.1) (hR : M'.2.1 ≤ s.heap.size + R.cells ∧ M'.2.2.1 ≤ n0 + R.slots) (hn0 : n0 ≤ M.2.2.1) (hRf : d + 1 ≤ R.frames ∧ 40 * (d + 1) ≤ R.locals) (k : zAt p l e R s m args below meth c Q B D ty nL aS n0 pc' L' (r.toList ++ S') M') : zAt p l e R s m args below meth c Q B D ty nL aS n0 pc L S M := by
  intro H locs ls I
  have hpre := zPre_of C I
  obtain ⟨hx, hb, hml, ⟨own, how, hown⟩, hts, hrt, hlk, hini, hK, hNk, hAO, hB, hZ⟩ := id C
  obtain ⟨hP, hsz, hS, hL, hM1⟩ := id I
  have hbase : s.heap.size ≤ M.2.1 := by rw [← hsz]; exact hS.1
  have hf : (M.2.1 - s.heap.size) + (M'.2.1 - M.2.1) ≤ R.cells ∧ (M.2.2.1 - n0) + (M'.2.2.1 - M.2.2.1) ≤ R.slots := by omega
  have hCF : CallFix p m c cc nL s args zW own := ⟨hx, hb, hml, hown, hts⟩
  have kk : ∀ (t : State) (H1 : Heap) (locs1 : List Loc), t.heap = H1 → s.vm.Alike t.vm → zRep B D ty t H1 M' → H1.size = M'.2.1 → va_S (fun q => B ≤ q) s.heap H1 locs1 → L = L' → pc + 3 = pc' → W p l e R s m args below meth c H1 locs1 ((M.2.1 - s.heap.size) + (M'.2.1 - M.2.1)) ((M.2.2.1 - n0) + (M'.2.2.1 - M.2.2.1)) Q (F0 m (pc + 3) ls (r.toList ++ S')) := by
    intro t H1 locs1 ht hvm hr1 hz1 hS1 hLL hpp
    subst hLL; subst hpp
    exact W.cs (by omega) (by omega) (k H1 locs1 ls ⟨hr1.moved hvm.symm, hz1, hS1, hL, hM1'.trans hM1⟩)
  cases ins
  case invokestatic ix =>
    have hl : len = 3 := hl
    subst hl
    replace h : (match zCp ow ix with
      | some (4, a, n) => zCallS (pc + 3) a n L S M
      | some (5, a, n) => zCallS (pc + 3) a n L S M
      | _ => none) = _ := h
    split at h
    · next a0 n hcp =>
      obtain ⟨rfl, rfl, rfl, hpp, hLL, rfl, hn, h4⟩ := zCallS_inv h
      obtain ⟨_, _, rm, hrm, hw, hna, hkd, hno⟩ := zCp_ok how hcp
      obtain ⟨w1, w2, w3, w4, w5, w6, w7, w8, w9, w10⟩ := zAll_get zmp_all hrm hno
      have hcb := callB_of (R := R) (rm := zRm d (M'.2.1 - M.2.1) (M'.2.2.1 - M.2.2.1)) (own := own) (index := ix) n hts (zGoodIn w1) rfl rfl rfl (hts _ (zWm w2 rfl)) (hts _ (zWm hw rfl)) ⟨w7.1, w7.2.1, by rw [w7.2.2]; exact congrArg some hna⟩ ⟨by show d + 1 ≤ _; omega, by show 8 + (rm.2.2.1 + 11) + 40 * d ≤ _; omega⟩
      exact z_use (va_runS (As := (S.take n).reverse) (rest := S.drop n) hCF (hM rm hrm hno) ⟨hcb, hts _ (zWm (w3 hkd) rfl)⟩ ⟨zBlind, fun U hU hW => ⟨rfl, hpre U hU hW⟩⟩ rfl (by rw [List.length_reverse, List.length_take]; omega) hL.2.1 (by show S = _; rw [List.reverse_reverse, List.take_append_drop]) (lv_room (zCat4 h4)) hd hf) hS (fun t H1 locs1 h1 h2 h3 h4 h5 => kk t H1 locs1 h1 h2 h3 h4 h5 hLL hpp)
    · next a0 n hcp =>
      obtain ⟨rfl, rfl, rfl, hpp, hLL, rfl, hn, h4⟩ := zCallS_inv h
      obtain ⟨_, _, rm, hrm, hw, hna, hkd, hno⟩ := zCp_ok how hcp
      obtain ⟨w1, w2, w3, w4, w5, w6, w7, w8, w9, w10⟩ := zAll_get zmp_all hrm hno
      have hcb := va_cnB (R := R) (rm := zRm d (M'.2.1 - M.2.1) (M'.2.2.1 - M.2.2.1)) (own := own) (index := ix) n hts (zGoodIn w1) rfl rfl rfl (hNk _ hw rfl) (hts _ (zWm w2 rfl)) ⟨w7.1, w7.2.1, by rw [w7.2.2]; exact congrArg some hna⟩ ⟨by show d + 1 ≤ _; omega, by show 8 + (rm.2.2.1 + 11) + 40 * d ≤ _; omega⟩
      exact z_use (va_runSN (As := (S.take n).reverse) (rest := S.drop n) hCF (hM rm hrm hno) ⟨hcb, hts _ (zWm (w3 hkd) rfl), trivial⟩ ⟨zBlind, fun U hU hW => ⟨rfl, hpre U hU hW⟩⟩ rfl (by rw [List.length_reverse, List.length_take]; omega) hL.2.1 (by show S = _; rw [List.reverse_reverse, List.take_append_drop]) (lv_room (zCat4 h4)) hd hf) hS (fun t H1 locs1 h1 h2 h3 h4 h5 => kk t H1 locs1 h1 h2 h3 h4 h5 hLL hpp)
    · cases h
  case invokevirtual ix =>
    have hl : len = 3 := hl
    subst hl
    replace h : (match zCp ow ix with
      | some (2, a, n) => zCallV (pc + 3) a n L S M true
      | some (3, a, n) => zCallV (pc + 3) a n L S M true
      | _ => none) = _ := h
    split at h
    · next a0 n hcp =>
      obtain ⟨b, rfl, rfl, rfl, hpp, hLL, hS0, hn, h4, hck⟩ := zCallV_inv h
      obtain ⟨_, _, rm, hrm, hw, hna, hkd, hno⟩ := zCp_ok how hcp
      obtain ⟨w1, w2, w3, w4, w5, w6, w7, w8, w9, w10⟩ := zAll_get zmp_all hrm hno
      have hcb := callB_of (R := R) (rm := zRm d (M'.2.1 - M.2.1) (M'.2.2.1 - M.2.2.1)) (own := own) (index := ix) n hts (zGoodIn w1) rfl rfl rfl (hts _ (zWm w2 rfl)) (hts _ (zWm hw rfl)) ⟨w7.1, w7.2.1, by rw [w7.2.2]; exact congrArg some hna⟩ ⟨by show d + 1 ≤ _; omega, by show 8 + (rm.2.2.1 + 11) + 40 * d ≤ _; omega⟩
      obtain ⟨fs, hg⟩ := zis_inv (hck rfl)
      rw [zow_ok hrm] at hg
      obtain ⟨w51, w52⟩ := w5 hkd
      obtain ⟨rc, hrc, hrn⟩ := Option.map_eq_some_iff.mp w52
      have hrecv := va_recv (q0 := 0) hK (zat_one (hP b _ hg).2) hrc rfl
      rw [hrn] at hrecv
      exact z_use (va_runV (As := (S.take n).reverse) (rest := S') hCF (hM rm hrm hno) ⟨hcb, hts _ (zWm (w4 (by rw [hkd]; decide)) rfl), hts _ (zWm w51 rfl)⟩ ⟨zBlind, hrecv, fun U hU hW => ⟨rfl, hpre U hU hW⟩⟩ rfl (by rw [List.length_reverse, List.length_take]; omega) hL.2.1 (by show S = _; rw [List.reverse_reverse, ← hS0, List.take_append_drop]) (lv_room (zCat4 h4)) hd hf) hS (fun t H1 locs1 h1 h2 h3 h4 h5 => kk t H1 locs1 h1 h2 h3 h4 h5 hLL hpp)
    · next a0 n hcp =>
      obtain ⟨b, rfl, rfl, rfl, hpp, hLL, hS0, hn, h4, hck⟩ := zCallV_inv h
      obtain ⟨_, _, rm, hrm, hw, hna, hkd, hno⟩ := zCp_ok how hcp
      obtain ⟨w1, w2, w3, w4, w5, w6, w7, w8, w9, w10⟩ := zAll_get zmp_all hrm hno
      have hcb := va_cnB (R := R) (rm := zRm d (M'.2.1 - M.2.1) (M'.2.2.1 - M.2.2.1)) (own := own) (index := ix) n hts (zGoodIn w1) rfl rfl rfl (hNk _ hw rfl) (hts _ (zWm w2 rfl)) ⟨w7.1, w7.2.1, by rw [w7.2.2]; exact congrArg some hna⟩ ⟨by show d + 1 ≤ _; omega, by show 8 + (rm.2.2.1 + 11) + 40 * d ≤ _; omega⟩
      obtain ⟨fs, hg⟩ := zis_inv (hck rfl)
      rw [zow_ok hrm] at hg
      obtain ⟨w51, w52⟩ := w5 hkd
      obtain ⟨rc, hrc, hrn⟩ := Option.map_eq_some_iff.mp w52
      have hrecv := va_recv (q0 := 0) hK (zat_one (hP b _ hg).2) hrc rfl
      rw [hrn] at hrecv
      exact z_use (va_runVN (As := (S.take n).reverse) (rest := S') hCF (hM rm hrm hno) ⟨hcb, hts _ (zWm (w4 (by rw [hkd]; decide)) rfl), hts _ (zWm w51 rfl)⟩ ⟨zBlind, hrecv, fun U hU hW => ⟨rfl, hpre U hU hW⟩⟩ rfl (by rw [List.length_reverse, List.length_take]; omega) hL.2.1 (by show S = _; rw [List.reverse_reverse, ← hS0, List.take_append_drop]) (lv_room (zCat4 h4)) hd hf) hS (fun t H1 locs1 h1 h2 h3 h4 h5 => kk t H1 locs1 h1 h2 h3 h4 h5 hLL hpp)
    · cases h
  case invokespecial ix =>
    have hl : len = 3 := hl
    subst hl
    replace h : (match zCp ow ix with
      | some (6, a, n) => zCallV (pc + 3) a n L S M false
      | some (7, a, n) => zCallV (pc + 3) a n L S M false
      | some (8, _, _) => zObj (pc + 3) L S M
      | _ => none) = _ := h
    split at h
    · next a0 n hcp =>
      obtain ⟨b, rfl, rfl, rfl, hpp, hLL, hS0, hn, h4, hck⟩ := zCallV_inv h
      obtain ⟨_, _, rm, hrm, hw, hna, hkd, hno⟩ := zCp_ok how hcp
      obtain ⟨w1, w2, w3, w4, w5, w6, w7, w8, w9, w10⟩ := zAll_get zmp_all hrm hno
      obtain ⟨w91, w92⟩ := w9 hkd
      have hM3 := hM rm hrm hno
      rw [w92] at hM3 w1
      have hcb := callB_of (R := R) (rm := zRm d (M'.2.1 - M.2.1) (M'.2.2.1 - M.2.2.1)) (own := own) (index := ix) n hts (zGoodIn w1) rfl rfl rfl (hts _ (zWm w2 rfl)) (hts _ (zWm hw rfl)) ⟨w7.1, w7.2.1, by rw [w7.2.2]; exact congrArg some hna⟩ ⟨by show d + 1 ≤ _; omega, by show 8 + (rm.2.2.1 + 11) + 40 * d ≤ _; omega⟩
      exact z_use (va_runI (b := b) (As := (S.take n).reverse) (rest := S') hCF hM3 ⟨hcb, w91, hts _ (zWm (w4 (by rw [hkd]; decide)) rfl)⟩ ⟨zBlind, fun U hU hW => ⟨rfl, hpre U hU hW⟩⟩ rfl (by rw [List.length_reverse, List.length_take]; omega) hL.2.1 (by show S = _; rw [List.reverse_reverse, ← hS0, List.take_append_drop]) (lv_room (zCat4 h4)) hd hf) hS (fun t H1 locs1 h1 h2 h3 h4 h5 => kk t H1 locs1 h1 h2 h3 h4 h5 hLL hpp)
    · next a0 n hcp =>
      obtain ⟨b, rfl, rfl, rfl, hpp, hLL, hS0, hn, h4, hck⟩ := zCallV_inv h
      obtain ⟨_, _, rm, hrm, hw, hna, hkd, hno⟩ := zCp_ok how hcp
      obtain ⟨w1, w2, w3, w4, w5, w6, w7, w8, w9, w10⟩ := zAll_get zmp_all hrm hno
      obtain ⟨w91, w92⟩ := w9 hkd
      have hM3 := hM rm hrm hno
      rw [w92] at hM3 w1
      have hcb := va_cnB (R := R) (rm := zRm d (M'.2.1 - M.2.1) (M'.2.2.1 - M.2.2.1)) (own := own) (index := ix) n hts (zGoodIn w1) rfl rfl rfl (hNk _ hw rfl) (hts _ (zWm w2 rfl)) ⟨w7.1, w7.2.1, by rw [w7.2.2]; exact congrArg some hna⟩ ⟨by show d + 1 ≤ _; omega, by show 8 + (rm.2.2.1 + 11) + 40 * d ≤ _; omega⟩
      exact z_use (va_runIN (b := b) (As := (S.take n).reverse) (rest := S') hCF hM3 ⟨hcb, w91, hts _ (zWm (w4 (by rw [hkd]; decide)) rfl)⟩ ⟨zBlind, fun U hU hW => ⟨rfl, hpre U hU hW⟩⟩ rfl (by rw [List.length_reverse, List.length_take]; omega) hL.2.1 (by show S = _; rw [List.reverse_reverse, ← hS0, List.take_append_drop]) (lv_room (zCat4 h4)) hd hf) hS (fun t H1 locs1 h1 h2 h3 h4 h5 => kk t H1 locs1 h1 h2 h3 h4 h5 hLL hpp)
    · next _ _ hcp =>
      unfold zObj at h
      split at h
      · split at h
        · exact absurd h zNo1
        · cases h
      · cases h
    · cases h
  case ireturn => exact absurd h zRet_nc
  case lreturn => exact absurd h zRet_nc
  case return_ => exact absurd h zRetV_nc
  all_goals exact absurd h (zNoCall (fun _ q => by cases q) (fun _ q => by cases q) (fun _ q => by cases q) (fun q => by cases q) (fun q => by cases q) (fun q => by cases q))
end ZT
