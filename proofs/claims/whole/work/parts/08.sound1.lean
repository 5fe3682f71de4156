/-! what our machine's states say of the heap -/
def zTys (ty : Nat → ClassId) : List (ClassId × FieldType) := [(ty 10, .int), (ty 11, .boolean), (ty 12, .object "StoneFurrows$Stone")]
def zat (B : Nat) (D : va_G) (ty : Nat → ClassId) (s : State) (H : Heap) (a : Nat) (c : zE) : Prop := match c with
  | .inr o => B ≤ a ∧ va_at D vwCl (a, .inr o) H
  | .inl x => if x.1 = 13 then ∃ n f, x.2 = (n, .inl f) ∧ va_X a n f s H else B ≤ a ∧ va_at D vwCl (a, .inl (ty x.1, x.2)) H
def zRep (B : Nat) (D : va_G) (ty : Nat → ClassId) (s : State) (H : Heap) (M : zM) : Prop := ∀ a c, zget M a = some c → zat B D ty s H a c
def zNw (w : Cond) : Bool := match w with
  | .fieldLinkNest _ _ _ _ _ _ => true
  | .methodLinkNest _ _ _ _ => true
  | _ => false
def zNk (U : State) : Prop := ∀ w ∈ zTB, zNw w = true → va_Nw w U
def zCx (p : Program) (s : State) (m : MethodId) (args : Array Value) (meth : Method) (c : Code) (cc : ByteArray) (nL B aS : Nat) (D : va_G) (ty : Nat → ClassId) (ow : Nat) (rt : Option FieldType) (ini : Bool) : Prop :=
  p.tables.exec = Jvm.exec ∧ c.code = cc ∧ c.maxLocals = nL ∧ (∃ own, zOwn[ow]? = some own ∧ s.vm.findClass own = some m.cls) ∧ (∀ w ∈ zW, w.before args s = true) ∧ meth.sig.returnType = rt ∧ meth.locks = false ∧ (ini = true → meth.name = "<init>") ∧ va_K D vwCl (zTys ty) s ∧ zNk s ∧ va_AO "StoneFurrows$Stone" s ∧ B ≤ s.heap.size ∧ va_Z "StoneFurrows$Hanging" "SLOPES" "[I" (.ref aS) (fun q => B ≤ q) s s.heap
def zAs (L : zL) : List (Nat × Value) := (List.range L.length).filterMap fun i => match L[i]? with
  | some (some v) => if v.category = 2 then (if L[i + 1]? = some none then some (i, v) else none) else some (i, v)
  | _ => none
theorem zAs_mem {L : zL} {i : Nat} {v : Value} : (i, v) ∈ zAs L ↔ L[i]? = some (some v) ∧ (v.category = 2 → L[i + 1]? = some none) := by
  unfold zAs
  rw [List.mem_filterMap]
  constructor
  · rintro ⟨j, hj, h⟩
    split at h
    · next w hw =>
      split at h
      · next hc =>
        split at h
        · next hn => cases h; exact ⟨hw, fun _ => hn⟩
        · cases h
      · next hc => cases h; exact ⟨hw, fun q => absurd q hc⟩
    · cases h
  · rintro ⟨h1, h2⟩
    refine ⟨i, List.mem_range.mpr (List.getElem?_eq_some_iff.mp h1).1, ?_⟩
    rw [h1]
    by_cases hc : v.category = 2
    · simp [hc, h2 hc]
    · simp [hc]
def zHas (ls : Array Slot) (nL : Nat) (L : zL) : Prop := L.length = nL ∧ lv_has ls nL (zAs L)
theorem zHas.get {ls : Array Slot} {nL : Nat} {L : zL} (h : zHas ls nL L) {i : Nat} {v : Value} (h1 : L[i]? = some (some v)) (h2 : v.category = 2 → L[i + 1]? = some none) : ls[i]? = some (.val v) := h.2.2.2 (i, v) (zAs_mem.mpr ⟨h1, h2⟩)
theorem zHas.st1 {ls ls' : Array Slot} {nL : Nat} {L : zL} (h : zHas ls nL L) {i : Nat} {v : Value} (hi : i < L.length) (hc : v.category = 1) (h' : lv_has ls' nL ((i, v) :: (zAs L).filter (fun q => !(q.1 == i) && !(q.1 + 1 == i && q.2.category == 2)))) : zHas ls' nL (L.set i (some v)) := by
  refine ⟨by rw [List.length_set]; exact h.1, h'.1, h'.2.1, fun q hq => h'.2.2 q ?_⟩
  obtain ⟨j, w⟩ := q
  obtain ⟨h1, h2⟩ := zAs_mem.mp hq
  by_cases hj : j = i
  · subst hj
    rw [List.getElem?_set_self hi] at h1
    cases h1
    exact List.mem_cons_self
  · rw [List.getElem?_set_ne (Ne.symm hj)] at h1
    refine List.mem_cons_of_mem _ (List.mem_filter.mpr ⟨zAs_mem.mpr ⟨h1, fun hw => ?_⟩, ?_⟩)
    · have h3 := h2 hw
      by_cases hk : j + 1 = i
      · rw [hk, List.getElem?_set_self hi] at h3; cases h3
      · rw [List.getElem?_set_ne (Ne.symm hk)] at h3; exact h3
    · by_cases hk : j + 1 = i
      · have hw : ¬ w.category = 2 := fun hw => by
          have h3 := h2 hw
          rw [hk, List.getElem?_set_self hi] at h3; cases h3
        simp [hj, hw]
      · simp [hj, hk]
theorem zHas.st2 {ls ls' : Array Slot} {nL : Nat} {L : zL} (h : zHas ls nL L) {i : Nat} {v : Value} (hi : i + 1 < L.length) (hc : v.category = 2) (h' : lv_has ls' nL ((i, v) :: (zAs L).filter (fun q => !(q.1 == i) && (!(q.1 == i + 1) && !(q.1 + 1 == i && q.2.category == 2))))) : zHas ls' nL ((L.set i (some v)).set (i + 1) none) := by
  refine ⟨by rw [List.length_set, List.length_set]; exact h.1, h'.1, h'.2.1, fun q hq => h'.2.2 q ?_⟩
  obtain ⟨j, w⟩ := q
  obtain ⟨h1, h2⟩ := zAs_mem.mp hq
  have hi0 : i < L.length := by omega
  by_cases hj : j = i
  · subst hj
    rw [List.getElem?_set_ne (by omega), List.getElem?_set_self hi0] at h1
    cases h1
    exact List.mem_cons_self
  · by_cases hj1 : j = i + 1
    · subst hj1
      rw [List.getElem?_set_self (by rw [List.length_set]; exact hi)] at h1
      cases h1
    · rw [List.getElem?_set_ne (Ne.symm hj1), List.getElem?_set_ne (Ne.symm hj)] at h1
      refine List.mem_cons_of_mem _ (List.mem_filter.mpr ⟨zAs_mem.mpr ⟨h1, fun hw => ?_⟩, ?_⟩)
      · have h3 := h2 hw
        by_cases hk : j + 1 = i
        · rw [hk, List.getElem?_set_ne (by omega), List.getElem?_set_self hi0] at h3; cases h3
        · rw [List.getElem?_set_ne (by omega), List.getElem?_set_ne (Ne.symm hk)] at h3; exact h3
      · by_cases hk : j + 1 = i
        · have hw : ¬ w.category = 2 := fun hw => by
            have h3 := h2 hw
            rw [hk, List.getElem?_set_ne (by omega), List.getElem?_set_self hi0] at h3; cases h3
          simp [hj, hj1, hw]
        · simp [hj, hj1, hk]
def zInv (B : Nat) (D : va_G) (ty : Nat → ClassId) (s : State) (nL aS : Nat) (M : zM) (H : Heap) (locs : List Loc) (ls : Array Slot) (L : zL) : Prop :=
  zRep B D ty s H M ∧ H.size = M.2.1 ∧ va_S (fun q => B ≤ q) s.heap H locs ∧ zHas ls nL L ∧ M.1 = aS
def zAt (p : Program) (l : Launch) (e : Env) (R : Room) (s : State) (m : MethodId) (args : Array Value) (below : List Frame) (meth : Method) (c : Code) (Q : State → Prop) (B : Nat) (D : va_G) (ty : Nat → ClassId) (nL aS n0 pc : Nat) (L : zL) (S : List Value) (M : zM) : Prop :=
  ∀ H locs ls, zInv B D ty s nL aS M H locs ls L → W p l e R s m args below meth c H locs (M.2.1 - s.heap.size) (M.2.2.1 - n0) Q (F0 m pc ls S)
theorem zat.kept {B : Nat} {D : va_G} {ty : Nat → ClassId} {s : State} {H H1 : Heap} {a : Nat} {c : zE} (h : zat B D ty s H a c) (hq : H1[a]? = H[a]?) : zat B D ty s H1 a c := by
  cases c with
  | inr o => exact ⟨h.1, h.2.kept hq⟩
  | inl x =>
    unfold zat at h ⊢
    dsimp only at h ⊢
    split
    · next hx => rw [if_pos hx] at h; obtain ⟨n, f, h1, h2⟩ := h; exact ⟨n, f, h1, h2.kept hq⟩
    · next hx => rw [if_neg hx] at h; exact ⟨h.1, h.2.kept hq⟩
theorem zat.lt {B : Nat} {D : va_G} {ty : Nat → ClassId} {s : State} {H : Heap} {a : Nat} {c : zE} (h : zat B D ty s H a c) : a < H.size := by
  cases c with
  | inr o => exact h.2.lt
  | inl x =>
    unfold zat at h
    dsimp only at h
    split at h
    · obtain ⟨n, f, h1, scr, h2, -⟩ := h; exact (Array.getElem?_eq_some_iff.mp h2).1
    · exact h.2.lt
theorem zRep.set {B : Nat} {D : va_G} {ty : Nat → ClassId} {s : State} {H H1 : Heap} {M : zM} {a : Nat} {c : zE} (h : zRep B D ty s H M) (hc : zat B D ty s H1 a c) (oq : ∀ q, q ≠ a → H1[q]? = H[q]?) : zRep B D ty s H1 (zset M a c) := by
  intro b c' hb
  unfold zget zset at hb
  dsimp only at hb
  by_cases hab : b = a
  · subst hab; rw [if_pos rfl] at hb; cases hb; exact hc
  · rw [if_neg hab] at hb; exact (h b c' hb).kept (oq b hab)
theorem zRep.new {B : Nat} {D : va_G} {ty : Nat → ClassId} {s : State} {H H1 : Heap} {M : zM} {n : Nat} {c : zE} (h : zRep B D ty s H M) (hsz : H.size = M.2.1) (hc : zat B D ty s H1 H.size c) (oq : ∀ q, q < H.size → H1[q]? = H[q]?) : zRep B D ty s H1 (znew M n c) := by
  intro b c' hb
  unfold zget znew at hb
  dsimp only at hb
  by_cases hab : b = M.2.1
  · subst hab; rw [if_pos rfl] at hb; cases hb; rw [← hsz]; exact hc
  · rw [if_neg hab] at hb
    have h1 := h b c' hb
    exact h1.kept (oq b h1.lt)
theorem va_S.new {A : Nat → Prop} {H0 H H1 : Heap} {locs : List Loc} (h : va_S A H0 H locs) (z : H1.size = H.size + 1) (o : ∀ q, q < H.size → H1[q]? = H[q]?) : va_S A H0 H1 locs :=
  ⟨Nat.le_trans h.1 (by omega), fun q h1 h2 => (o q (Nat.lt_of_lt_of_le h1 h.1)).trans (h.2.1 q h1 h2), h.2.2⟩
-- facts of the tables
theorem zFd_mem {pc : Nat} : ∀ {l : List zIn_} {x : Instr × Nat}, zFd pc l = some x → (pc, x) ∈ l
  | [], _, h => by cases h
  | (q, y) :: t, x, h => by
    unfold zFd at h
    cases hq : Nat.beq q pc with
    | true =>
      rw [hq] at h
      have := Nat.eq_of_beq_eq_true hq
      subst this
      cases h
      exact List.mem_cons_self
    | false =>
      rw [hq] at h
      exact List.mem_cons_of_mem _ (zFd_mem h)
theorem zFe_mem {ix : Nat} : ∀ {l : List zCe} {k a b : Nat}, zFe ix l = some (k, a, b) → ∃ o hs, (o, ix, k, a, b, hs) ∈ l
  | [], _, _, _, h => by cases h
  | (o, q, k', a', b', hs) :: t, k, a, b, h => by
    unfold zFe at h
    cases hq : Nat.beq q ix with
    | true =>
      rw [hq] at h
      have := Nat.eq_of_beq_eq_true hq
      subst this
      cases h
      exact ⟨o, hs, List.mem_cons_self⟩
    | false =>
      rw [hq] at h
      obtain ⟨o', hs', h'⟩ := zFe_mem (l := t) h
      exact ⟨o', hs', List.mem_cons_of_mem _ h'⟩
theorem zFl_mem {ow ix : Nat} : ∀ {l : List (Nat × Nat × Int64 × Nat)} {v : Int64}, zFl ow ix l = some v → ∃ k, (ow, ix, v, k) ∈ l
  | [], _, h => by cases h
  | (o, q, v', k) :: t, v, h => by
    unfold zFl at h
    cases hq : (Nat.beq o ow && Nat.beq q ix) with
    | true =>
      rw [hq] at h
      rw [Bool.and_eq_true] at hq
      have h1 := Nat.eq_of_beq_eq_true hq.1
      have h2 := Nat.eq_of_beq_eq_true hq.2
      subst h1; subst h2
      cases h
      exact ⟨k, List.mem_cons_self⟩
    | false =>
      rw [hq] at h
      obtain ⟨k', h'⟩ := zFl_mem (l := t) h
      exact ⟨k', List.mem_cons_of_mem _ h'⟩
theorem zcp_all {ow : Nat} {own : String} {l : List zCe} (h1 : zOwn[ow]? = some own) (h2 : zCpT[ow]? = some l) : zAll (zCP ow own) l := by
  match ow, h1, h2 with
  | 0, h1, h2 => cases h1; cases h2; exact zcp_0
  | 1, h1, h2 => cases h1; cases h2; exact zcp_1
  | 2, h1, h2 => cases h1; cases h2; exact zcp_2
  | 3, h1, h2 => cases h1; cases h2; exact zcp_3
  | 4, h1, h2 => cases h1; cases h2; exact zcp_4
  | 5, h1, h2 => cases h1; cases h2; exact zcp_5
  | 6, h1, h2 => cases h1; cases h2; exact zcp_6
  | 7, h1, h2 => cases h1; cases h2; exact zcp_7
  | 8, h1, h2 => cases h1; cases h2; exact zcp_8
  | 9, h1, h2 => cases h1; cases h2; exact zcp_9
  | 10, h1, h2 => cases h1; cases h2; exact zcp_10
  | 11, h1, h2 => cases h1; cases h2; exact zcp_11
  | n + 12, h1, h2 => simp [zOwn] at h1
theorem zCp_ok {ow ix k a b : Nat} {own : String} (h1 : zOwn[ow]? = some own) (h : zCp ow ix = some (k, a, b)) : ∃ o hs, zCP ow own (o, ix, k, a, b, hs) := by
  unfold zCp at h
  cases hl : zCpT[ow]? with
  | none => rw [hl] at h; cases h
  | some l =>
    rw [hl] at h
    obtain ⟨o, hs, hm⟩ := zFe_mem (l := l) h
    exact ⟨o, hs, zAll_mem (zcp_all h1 hl) hm⟩
theorem zLc_ok {ow ix : Nat} {v : Int64} {own : String} (h1 : zOwn[ow]? = some own) (h : zLc ow ix = some v) : Cond.constantLong own ix v ∈ zTB := by
  obtain ⟨k, hm⟩ := zFl_mem h
  obtain ⟨own', e1, e2⟩ := zAll_mem zlp hm
  have : own' = own := Option.some.inj (e1.symm.trans h1)
  subst this
  exact e2
theorem zAllW {l : List Cond} (h : zAll (fun w => w ∈ zTB ∧ goodWord w = true) l) : ∀ w ∈ l, w ∈ zW := fun _ hw => zWm (zAll_mem h hw).1 (zAll_mem h hw).2
theorem zcl_ok {ci : Nat} {r : vw_C} (h : vwCl[ci]? = some r) : (∀ w ∈ u_ws r.1 r.2.1 r.2.2, w ∈ zW) ∧ (∃ ty : Nat → FieldType, ∀ k, k < r.2.2 → parseFieldDescriptor (r.2.1 k).2.2.1 = some (ty k)) ∧ (∀ a, a < r.2.2 → ∀ b, b < r.2.2 → a ≠ b → (r.2.1 a).2.1 ≠ (r.2.1 b).2.1) ∧ (∀ k, k < r.2.2 → (r.2.1 k).1 = r.1) ∧ zOwn[ci]? = some r.1 := by
  match ci, h with
  | 0, h => cases h; exact ⟨zAllW zf_0, ⟨tyX0, tyX0_ok⟩, nmX0, zg_0, rfl⟩
  | 1, h => cases h; exact ⟨zAllW zf_1, ⟨tyX1, tyX1_ok⟩, nmX1, zg_1, rfl⟩
  | 2, h => cases h; exact ⟨zAllW zf_2, ⟨tyX2, tyX2_ok⟩, nmX2, zg_2, rfl⟩
  | 3, h => cases h; exact ⟨zAllW zf_3, ⟨tyX3, tyX3_ok⟩, nmX3, zg_3, rfl⟩
  | 4, h => cases h; exact ⟨zAllW zf_4, ⟨tyX4, tyX4_ok⟩, nmX4, zg_4, rfl⟩
  | 5, h => cases h; exact ⟨zAllW zf_5, ⟨tyX5, tyX5_ok⟩, nmX5, zg_5, rfl⟩
  | 6, h => cases h; exact ⟨zAllW zf_6, ⟨tyX6, tyX6_ok⟩, nmX6, zg_6, rfl⟩
  | 7, h => cases h; exact ⟨zAllW zf_7, ⟨tyX7, tyX7_ok⟩, nmX7, zg_7, rfl⟩
  | 8, h => cases h; exact ⟨zAllW zf_8, ⟨tyX8, tyX8_ok⟩, nmX8, zg_8, rfl⟩
  | 9, h => cases h; exact ⟨zAllW zf_9, ⟨tyX9, tyX9_ok⟩, nmX9, zg_9, rfl⟩
  | n + 10, h => simp [vwCl] at h
-- helpers' inverses
theorem zN_inj {q : Nat} {L : zL} {S : List Value} {M : zM} {pc' : Nat} {L' : zL} {S' : List Value} {M' : zM} (h : zN q L S M = some (.inl (pc', L', S', M'))) : q = pc' ∧ L = L' ∧ S = S' ∧ M = M' := by
  unfold zN at h
  cases h
  exact ⟨rfl, rfl, rfl, rfl⟩
theorem zJ_inv {pc : Nat} {off : Int} {L : zL} {S : List Value} {M : zM} {pc' : Nat} {L' : zL} {S' : List Value} {M' : zM} (h : zJ pc off L S M = some (.inl (pc', L', S', M'))) : (pc : Int) + off = (pc' : Int) ∧ L = L' ∧ S = S' ∧ M = M' := by
  unfold zJ at h
  split at h
  · next h0 => obtain ⟨h1, h2⟩ := zN_inj h; exact ⟨by omega, h2⟩
  · cases h
theorem zLdi_inv {q i : Nat} {L : zL} {S : List Value} {M : zM} {pc' : Nat} {L' : zL} {S' : List Value} {M' : zM} (h : zLdi q L i S M = some (.inl (pc', L', S', M'))) : ∃ x, L[i]? = some (some (.int x)) ∧ q = pc' ∧ L = L' ∧ (.int x :: S) = S' ∧ M = M' := by
  unfold zLdi at h
  split at h
  · next x hx => exact ⟨x, hx, zN_inj h⟩
  · cases h
theorem zLda_inv {q i : Nat} {L : zL} {S : List Value} {M : zM} {pc' : Nat} {L' : zL} {S' : List Value} {M' : zM} (h : zLda q L i S M = some (.inl (pc', L', S', M'))) : ∃ x, L[i]? = some (some (.ref x)) ∧ q = pc' ∧ L = L' ∧ (.ref x :: S) = S' ∧ M = M' := by
  unfold zLda at h
  split at h
  · next x hx => exact ⟨x, hx, zN_inj h⟩
  · cases h
theorem zLdl_inv {q i : Nat} {L : zL} {S : List Value} {M : zM} {pc' : Nat} {L' : zL} {S' : List Value} {M' : zM} (h : zLdl q L i S M = some (.inl (pc', L', S', M'))) : ∃ x, L[i]? = some (some (.long x)) ∧ L[i + 1]? = some none ∧ q = pc' ∧ L = L' ∧ (.long x :: S) = S' ∧ M = M' := by
  unfold zLdl at h
  split at h
  · next x hx hy => exact ⟨x, hx, hy, zN_inj h⟩
  · cases h
theorem zSti_inv {q i : Nat} {L : zL} {S : List Value} {M : zM} {pc' : Nat} {L' : zL} {S' : List Value} {M' : zM} (h : zSti q L i S M = some (.inl (pc', L', S', M'))) : ∃ x S0, S = .int x :: S0 ∧ i < L.length ∧ q = pc' ∧ L.set i (some (.int x)) = L' ∧ S0 = S' ∧ M = M' := by
  unfold zSti at h
  split at h
  · next x S0 =>
    split at h
    · next hi => exact ⟨x, S0, rfl, hi, zN_inj h⟩
    · cases h
  · cases h
theorem zSta_inv {q i : Nat} {L : zL} {S : List Value} {M : zM} {pc' : Nat} {L' : zL} {S' : List Value} {M' : zM} (h : zSta q L i S M = some (.inl (pc', L', S', M'))) : ∃ x S0, S = .ref x :: S0 ∧ i < L.length ∧ q = pc' ∧ L.set i (some (.ref x)) = L' ∧ S0 = S' ∧ M = M' := by
  unfold zSta at h
  split at h
  · next x S0 =>
    split at h
    · next hi => exact ⟨x, S0, rfl, hi, zN_inj h⟩
    · cases h
  · cases h
theorem zStl_inv {q i : Nat} {L : zL} {S : List Value} {M : zM} {pc' : Nat} {L' : zL} {S' : List Value} {M' : zM} (h : zStl q L i S M = some (.inl (pc', L', S', M'))) : ∃ x S0, S = .long x :: S0 ∧ i + 1 < L.length ∧ q = pc' ∧ (L.set i (some (.long x))).set (i + 1) none = L' ∧ S0 = S' ∧ M = M' := by
  unfold zStl at h
  split at h
  · next x S0 =>
    split at h
    · next hi => exact ⟨x, S0, rfl, hi, zN_inj h⟩
    · cases h
  · cases h
theorem zII_inv {q : Nat} {L : zL} {S : List Value} {M : zM} {f : Int32 → Int32 → Int32} {pc' : Nat} {L' : zL} {S' : List Value} {M' : zM} (h : zII q L S M f = some (.inl (pc', L', S', M'))) : ∃ x y S0, S = .int y :: .int x :: S0 ∧ q = pc' ∧ L = L' ∧ (.int (f x y) :: S0) = S' ∧ M = M' := by
  unfold zII at h
  split at h
  · next y x S0 => exact ⟨x, y, S0, rfl, zN_inj h⟩
  · cases h
theorem zDV_inv {q : Nat} {L : zL} {S : List Value} {M : zM} {f : Int32 → Int32 → Int32} {pc' : Nat} {L' : zL} {S' : List Value} {M' : zM} (h : zDV q L S M f = some (.inl (pc', L', S', M'))) : ∃ x y S0, S = .int y :: .int x :: S0 ∧ ¬ y = 0 ∧ q = pc' ∧ L = L' ∧ (.int (f x y) :: S0) = S' ∧ M = M' := by
  unfold zDV at h
  split at h
  · next y x S0 =>
    split at h
    · cases h
    · next hy => exact ⟨x, y, S0, rfl, hy, zN_inj h⟩
  · cases h
theorem zLL_inv {q : Nat} {L : zL} {S : List Value} {M : zM} {f : Int64 → Int64 → Int64} {pc' : Nat} {L' : zL} {S' : List Value} {M' : zM} (h : zLL q L S M f = some (.inl (pc', L', S', M'))) : ∃ x y S0, S = .long y :: .long x :: S0 ∧ q = pc' ∧ L = L' ∧ (.long (f x y) :: S0) = S' ∧ M = M' := by
  unfold zLL at h
  split at h
  · next y x S0 => exact ⟨x, y, S0, rfl, zN_inj h⟩
  · cases h
theorem zPv_inv {q : Nat} {L : zL} {S : List Value} {M : zM} {o : Option Value} {pc' : Nat} {L' : zL} {S' : List Value} {M' : zM} (h : zPv q L S M o = some (.inl (pc', L', S', M'))) : ∃ v, o = some v ∧ q = pc' ∧ L = L' ∧ (v :: S) = S' ∧ M = M' := by
  unfold zPv at h
  split at h
  · next v => exact ⟨v, rfl, zN_inj h⟩
  · cases h
theorem zPm_inv {q : Nat} {L : zL} {S : List Value} {o : Option zM} {pc' : Nat} {L' : zL} {S' : List Value} {M' : zM} (h : zPm q L S o = some (.inl (pc', L', S', M'))) : o = some M' ∧ q = pc' ∧ L = L' ∧ S = S' := by
  unfold zPm at h
  split at h
  · next M0 =>
    obtain ⟨h1, h2, h3, h4⟩ := zN_inj h
    exact ⟨by rw [h4], h1, h2, h3⟩
  · cases h
theorem zGf_inv {o : Option zE} {ci k : Nat} {v : Value} (h : zGf o ci k = some v) : ∃ fs, o = some (.inr (ci, fs)) ∧ fs[k]? = some v := by
  unfold zGf at h
  split at h
  · next c fs =>
    split at h
    · next hc => subst hc; exact ⟨fs, rfl, h⟩
    · cases h
  · cases h
theorem zPf_inv {M M' : zM} {a : Nat} {o : Option zE} {ci k : Nat} {v : Value} (h : zPf M a o ci k v = some M') : ∃ fs, o = some (.inr (ci, fs)) ∧ k < fs.length ∧ zFit (zTyF ci k) v = true ∧ M' = zset M a (.inr (ci, fs.set k v)) := by
  unfold zPf at h
  split at h
  · next c fs =>
    split at h
    · next hc =>
      split at h
      · next hk => subst hc; cases h; exact ⟨fs, rfl, hk.1, hk.2, rfl⟩
      · cases h
    · cases h
  · cases h
theorem zis_inv {o : Option zE} {ci : Nat} (h : zis o ci = true) : ∃ fs, o = some (.inr (ci, fs)) := by
  unfold zis at h
  split at h
  · next c fs => have := Nat.eq_of_beq_eq_true h; subst this; exact ⟨fs, rfl⟩
  · cases h
