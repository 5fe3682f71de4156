/-! steps keep the sizes in order; a run comes to one answer; a run by its first step -/
def zGood (M : zM) : zO → Prop
  | none => True
  | some (.inl (_, _, _, M')) => M.2.1 ≤ M'.2.1 ∧ M.2.2.1 ≤ M'.2.2.1 ∧ M'.1 = M.1
  | some (.inr (.inl (_, _, M', _, _, _))) => M' = M
  | some (.inr (.inr (_, M'))) => M' = M
theorem zg_N {q : Nat} {L : zL} {S : List Value} {M : zM} : zGood M (zN q L S M) := ⟨Nat.le_refl _, Nat.le_refl _, rfl⟩
theorem zg_new {q n : Nat} {c : zE} {L : zL} {S : List Value} {M : zM} : zGood M (zN q L S (znew M n c)) := ⟨Nat.le_succ _, Nat.le_add_right _ _, rfl⟩
theorem zg_J {pc : Nat} {off : Int} {L : zL} {S : List Value} {M : zM} : zGood M (zJ pc off L S M) := by
  unfold zJ; split
  · exact zg_N
  · trivial
theorem zg_Ldi {q i : Nat} {L : zL} {S : List Value} {M : zM} : zGood M (zLdi q L i S M) := by
  unfold zLdi; split
  · exact zg_N
  · trivial
theorem zg_Lda {q i : Nat} {L : zL} {S : List Value} {M : zM} : zGood M (zLda q L i S M) := by
  unfold zLda; split
  · exact zg_N
  · trivial
theorem zg_Ldl {q i : Nat} {L : zL} {S : List Value} {M : zM} : zGood M (zLdl q L i S M) := by
  unfold zLdl; split
  · exact zg_N
  · trivial
theorem zg_Sti {q i : Nat} {L : zL} {S : List Value} {M : zM} : zGood M (zSti q L i S M) := by
  unfold zSti; split
  · split
    · exact zg_N
    · trivial
  · trivial
theorem zg_Sta {q i : Nat} {L : zL} {S : List Value} {M : zM} : zGood M (zSta q L i S M) := by
  unfold zSta; split
  · split
    · exact zg_N
    · trivial
  · trivial
theorem zg_Stl {q i : Nat} {L : zL} {S : List Value} {M : zM} : zGood M (zStl q L i S M) := by
  unfold zStl; split
  · split
    · exact zg_N
    · trivial
  · trivial
theorem zg_II {q : Nat} {L : zL} {S : List Value} {M : zM} {f : Int32 → Int32 → Int32} : zGood M (zII q L S M f) := by
  unfold zII; split
  · exact zg_N
  · trivial
theorem zg_DV {q : Nat} {L : zL} {S : List Value} {M : zM} {f : Int32 → Int32 → Int32} : zGood M (zDV q L S M f) := by
  unfold zDV; split
  · split
    · trivial
    · exact zg_N
  · trivial
theorem zg_LL {q : Nat} {L : zL} {S : List Value} {M : zM} {f : Int64 → Int64 → Int64} : zGood M (zLL q L S M f) := by
  unfold zLL; split
  · exact zg_N
  · trivial
theorem zg_Ic {cd : Jvm.ClassFile.Cond} {pc : Nat} {off : Int} {L : zL} {S : List Value} {M : zM} : zGood M (zIc cd pc off L S M) := by
  unfold zIc
  repeat' split
  all_goals first | exact zg_N | exact zg_J | trivial
theorem zg_Pv {q : Nat} {L : zL} {S : List Value} {M : zM} {o : Option Value} : zGood M (zPv q L S M o) := by
  unfold zPv; split
  · exact zg_N
  · trivial
theorem zAst_size {M M' : zM} {a k : Nat} {o : Option zE} {i : Int32} {v : Value} (h : zAst M a o i v k = some M') : ∃ c, M' = zset M a c := by
  unfold zAst at h
  repeat' split at h
  all_goals first | (cases h; exact ⟨_, rfl⟩) | cases h
theorem zPf_size {M M' : zM} {a ci k : Nat} {o : Option zE} {v : Value} (h : zPf M a o ci k v = some M') : ∃ c, M' = zset M a c := by
  unfold zPf at h
  repeat' split at h
  all_goals first | (cases h; exact ⟨_, rfl⟩) | cases h
theorem zg_Pma {q a k : Nat} {L : zL} {S : List Value} {M : zM} {o : Option zE} {i : Int32} {v : Value} : zGood M (zPm q L S (zAst M a o i v k)) := by
  unfold zPm; split
  · next M' h => obtain ⟨c, rfl⟩ := zAst_size h; exact ⟨Nat.le_refl _, Nat.le_refl _, rfl⟩
  · trivial
theorem zg_Pmf {q a ci k : Nat} {L : zL} {S : List Value} {M : zM} {o : Option zE} {v : Value} : zGood M (zPm q L S (zPf M a o ci k v)) := by
  unfold zPm; split
  · next M' h => obtain ⟨c, rfl⟩ := zPf_size h; exact ⟨Nat.le_refl _, Nat.le_refl _, rfl⟩
  · trivial
theorem zg_CallS {q a n : Nat} {L : zL} {S : List Value} {M : zM} : zGood M (zCallS q a n L S M) := by
  unfold zCallS; split
  · rfl
  · trivial
theorem zg_CallV {q a n : Nat} {L : zL} {S : List Value} {M : zM} {chk : Bool} : zGood M (zCallV q a n L S M chk) := by
  unfold zCallV
  repeat' split
  all_goals first | rfl | trivial
theorem zg_Obj {q : Nat} {L : zL} {S : List Value} {M : zM} : zGood M (zObj q L S M) := by
  unfold zObj
  repeat' split
  all_goals first | exact zg_N | trivial
theorem zg_Ret {lg : Bool} {rt : Option FieldType} {S : List Value} {M : zM} : zGood M (zRet lg rt S M) := by
  unfold zRet
  repeat' split
  all_goals first | rfl | trivial
theorem zg_RetV {rt : Option FieldType} {S : List Value} {M : zM} : zGood M (zRetV rt S M) := by
  unfold zRetV
  split
  · rfl
  · trivial
set_option maxHeartbeats 4000000 in
theorem zStep_good {ow : Nat} {rt : Option FieldType} {ini : Bool} {ins : Instr} {pc : Nat} {L : zL} {S : List Value} {M : zM} : zGood M (zStep ow rt ini ins pc L S M) := by
  unfold zStep
  repeat' split
  all_goals first | exact zg_N | exact zg_J | exact zg_new | exact zg_Ldi | exact zg_Lda | exact zg_Ldl | exact zg_Sti | exact zg_Sta | exact zg_Stl | exact zg_II | exact zg_DV | exact zg_LL | exact zg_Ic | exact zg_Pv | exact zg_Pma | exact zg_Pmf | exact zg_CallS | exact zg_CallV | exact zg_Obj | exact zg_Ret | exact zg_RetV | rfl | trivial
theorem zOut_good {mi pc : Nat} {L : zL} {S : List Value} {M : zM} : zGood M (zOut mi pc L S M) := by
  unfold zOut; split
  · exact zStep_good
  · trivial
theorem zOut_next {mi pc : Nat} {L : zL} {S : List Value} {M : zM} {pc' : Nat} {L' : zL} {S' : List Value} {M' : zM} (h : zOut mi pc L S M = some (.inl (pc', L', S', M'))) : M.2.1 ≤ M'.2.1 ∧ M.2.2.1 ≤ M'.2.2.1 ∧ M'.1 = M.1 := by
  have g := zOut_good (mi := mi) (pc := pc) (L := L) (S := S) (M := M); rw [h] at g; exact g
theorem zOut_call {mi pc : Nat} {L : zL} {S : List Value} {M : zM} {a : Nat} {As : List Value} {M' : zM} {pc' : Nat} {L' : zL} {S' : List Value} (h : zOut mi pc L S M = some (.inr (.inl (a, As, M', pc', L', S')))) : M' = M := by
  have g := zOut_good (mi := mi) (pc := pc) (L := L) (S := S) (M := M); rw [h] at g; exact g
theorem zOut_ret {mi pc : Nat} {L : zL} {S : List Value} {M : zM} {r : Option Value} {M' : zM} (h : zOut mi pc L S M = some (.inr (.inr (r, M')))) : M' = M := by
  have g := zOut_good (mi := mi) (pc := pc) (L := L) (S := S) (M := M); rw [h] at g; exact g
theorem zC_one : ∀ (d mi : Nat) (As : List Value) (M : zM) (K : zK), zC d mi As M K → ∃ r M', K r M' ∧ M.2.1 ≤ M'.2.1 ∧ M.2.2.1 ≤ M'.2.2.1 ∧ M'.1 = M.1 ∧ zC d mi As M (fun r' M'' => r' = r ∧ M'' = M') := by
  intro d
  induction d with
  | zero => intro mi As M K h; exact h.elim
  | succ d ih =>
    intro mi As M K h
    obtain ⟨h0, n, h⟩ := h
    obtain ⟨r, M', h1, h2, h3, h4, h5⟩ := zR_one (zC_mono d) ih (fun _ _ _ _ _ _ _ _ _ h => zOut_next h) (fun _ _ _ _ _ _ _ _ _ _ _ h => zOut_call h) (fun _ _ _ _ _ _ _ h => zOut_ret h) n _ _ _ _ K h
    exact ⟨r, M', h1, h2, h3, h4, h0, n, h5⟩
theorem zR_oneC (d : Nat) {mi n pc : Nat} {L : zL} {S : List Value} {M : zM} {K : zK} (h : zR (zC d) mi n pc L S M K) : ∃ r M', K r M' ∧ M.2.1 ≤ M'.2.1 ∧ M.2.2.1 ≤ M'.2.2.1 ∧ M'.1 = M.1 ∧ zR (zC d) mi n pc L S M (fun r' M'' => r' = r ∧ M'' = M') :=
  zR_one (zC_mono d) (zC_one d) (fun _ _ _ _ _ _ _ _ _ h => zOut_next h) (fun _ _ _ _ _ _ _ _ _ _ _ h => zOut_call h) (fun _ _ _ _ _ _ _ h => zOut_ret h) n _ _ _ _ K h
/-- a run by its first step -/
theorem Ev_eq (d mi pc : Nat) (L : zL) (S : List Value) (M : zM) (K : zK) : Ev d mi pc L S M K = zGo (zC d) (Ev d mi) K (zOut mi pc L S M) := by
  refine propext ⟨fun h => ?_, fun h => ?_⟩
  · obtain ⟨n, h⟩ := h
    cases n with
    | zero => exact h.elim
    | succ n => exact zGo_mono (C := zC d) (nx := zR (zC d) mi n) (zC_mono d) (fun pc L S M h => ⟨n, h⟩) (fun _ _ h => h) h
  · cases ho : zOut mi pc L S M with
    | none => rw [ho] at h; exact h.elim
    | some o =>
      rw [ho] at h
      match o, h, ho with
      | .inl (pc', L', S', M'), h, ho =>
        obtain ⟨n, h⟩ := h
        refine ⟨n + 1, ?_⟩
        show zGo (zC d) (zR (zC d) mi n) K (zOut mi pc L S M)
        rw [ho]; exact h
      | .inr (.inl (a, As, M', pc', L', S')), h, ho =>
        obtain ⟨r, M2, ⟨n, h1⟩, -, -, -, h5⟩ := zC_one d a As M' _ h
        refine ⟨n + 1, ?_⟩
        show zGo (zC d) (zR (zC d) mi n) K (zOut mi pc L S M)
        rw [ho]
        exact zC_mono d a As M' _ _ (fun r' M'' q => by obtain ⟨rfl, rfl⟩ := q; exact h1) h5
      | .inr (.inr (r, M')), h, ho =>
        refine ⟨1, ?_⟩
        show zGo (zC d) (zR (zC d) mi 0) K (zOut mi pc L S M)
        rw [ho]; exact h
theorem zC_eq {d mi : Nat} {As : List Value} {M : zM} {K : zK} (h : (zFla As).length ≤ zml mi) : zC (d + 1) mi As M K = Ev d mi 0 (zEn (zml mi) As) [] M K := propext ⟨fun q => q.2, fun q => ⟨h, q⟩⟩
theorem zRK_eq (d mi pc : Nat) (L : zL) (S : List Value) (K : zK) (r : Option Value) (M : zM) : zRK d mi pc L S K r M = Ev d mi pc L (r.toList ++ S) M K := rfl
