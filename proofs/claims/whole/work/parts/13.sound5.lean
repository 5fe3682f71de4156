/-! answers, runs, and the contract of every method -/
theorem zRt_inv {lg : Bool} {rt : Option FieldType} {v : Value} (h : zRt lg rt v = true) : (lg = false ∧ rt = some .int ∧ ∃ x, v = .int x) ∨ (lg = false ∧ rt = some .boolean ∧ ∃ x, v = .int x ∧ narrow .boolean (.int x) = .int x) ∨ (lg = true ∧ rt = some .long ∧ ∃ x, v = .long x) := by
  unfold zRt at h
  split at h
  · exact Or.inl ⟨rfl, rfl, _, rfl⟩
  · next x =>
    refine Or.inr (Or.inl ⟨rfl, rfl, x, rfl, ?_⟩)
    have h1 : x = 0 ∨ x = 1 := by simpa using h
    rcases h1 with rfl | rfl <;> rfl
  · exact Or.inr (Or.inr ⟨rfl, rfl, _, rfl⟩)
  · cases h
theorem zRet_inv {lg : Bool} {rt : Option FieldType} {S : List Value} {M : zM} {r : Option Value} {M2 : zM} (h : zRet lg rt S M = some (.inr (.inr (r, M2)))) : ∃ v, S = [v] ∧ zRt lg rt v = true ∧ some v = r ∧ M = M2 := by
  unfold zRet at h
  split at h
  · next v =>
    split at h
    · next hv => cases h; exact ⟨v, rfl, hv, rfl, rfl⟩
    · cases h
  · cases h
theorem zRetV_inv {rt : Option FieldType} {S : List Value} {M : zM} {r : Option Value} {M2 : zM} (h : zRetV rt S M = some (.inr (.inr (r, M2)))) : S = [] ∧ rt = none ∧ none = r ∧ M = M2 := by
  unfold zRetV at h
  split at h
  · cases h; exact ⟨rfl, rfl, rfl, rfl⟩
  · cases h
theorem zCallS_nr {q a n : Nat} {L : zL} {S : List Value} {M : zM} {x : Option Value × zM} : ¬ zCallS q a n L S M = some (.inr (.inr x)) := by
  intro h
  unfold zCallS at h
  split at h <;> cases h
theorem zCallV_nr {q a n : Nat} {L : zL} {S : List Value} {M : zM} {chk : Bool} {x : Option Value × zM} : ¬ zCallV q a n L S M chk = some (.inr (.inr x)) := by
  intro h
  unfold zCallV at h
  repeat' split at h
  all_goals cases h
theorem zStep_ret {ow : Nat} {rt : Option FieldType} {ini : Bool} {ins : Instr} {pc : Nat} {L : zL} {S : List Value} {M : zM} {r : Option Value} {M2 : zM} (h : zStep ow rt ini ins pc L S M = some (.inr (.inr (r, M2)))) : (ins = .ireturn ∨ ins = .lreturn ∨ ins = .return_) ∧ M = M2 := by
  cases ins
  case ireturn => obtain ⟨_, _, _, _, h1⟩ := zRet_inv h; exact ⟨Or.inl rfl, h1⟩
  case lreturn => obtain ⟨_, _, _, _, h1⟩ := zRet_inv h; exact ⟨Or.inr (Or.inl rfl), h1⟩
  case return_ => obtain ⟨_, _, _, h1⟩ := zRetV_inv h; exact ⟨Or.inr (Or.inr rfl), h1⟩
  case invokestatic ix =>
    replace h : (match zCp ow ix with
      | some (4, a, n) => zCallS (pc + 3) a n L S M
      | some (5, a, n) => zCallS (pc + 3) a n L S M
      | _ => none) = _ := h
    split at h
    · exact absurd h zCallS_nr
    · exact absurd h zCallS_nr
    · cases h
  case invokevirtual ix =>
    replace h : (match zCp ow ix with
      | some (2, a, n) => zCallV (pc + 3) a n L S M true
      | some (3, a, n) => zCallV (pc + 3) a n L S M true
      | _ => none) = _ := h
    split at h
    · exact absurd h zCallV_nr
    · exact absurd h zCallV_nr
    · cases h
  case invokespecial ix =>
    replace h : (match zCp ow ix with
      | some (6, a, n) => zCallV (pc + 3) a n L S M false
      | some (7, a, n) => zCallV (pc + 3) a n L S M false
      | some (8, _, _) => zObj (pc + 3) L S M
      | _ => none) = _ := h
    split at h
    · exact absurd h zCallV_nr
    · exact absurd h zCallV_nr
    · unfold zObj at h
      split at h
      · split at h
        · exact absurd h zNo1
        · cases h
      · cases h
    · cases h
  all_goals exact absurd h (zNoCall (fun _ q => by cases q) (fun _ q => by cases q) (fun _ q => by cases q) (fun q => by cases q) (fun q => by cases q) (fun q => by cases q))
section ZU
variable {p : Program} {l : Launch} {e : Env} {R : Room} {s : State} {m : MethodId} {args : Array Value} {below : List Frame} {meth : Method} {c : Code} {Q : State → Prop}
variable {cc : ByteArray} {nL B aS n0 : Nat} {D : va_G} {ty : Nat → ClassId} {ow : Nat} {rt : Option FieldType} {ini : Bool}
theorem z_ret (C : zCx p s m args meth c cc nL B aS D ty ow rt ini) {ins : Instr} {len pc : Nat} {L : zL} {S : List Value} {M : zM} (hd : decode cc pc = .ok (ins, len)) (hl : len = zLen ins len) {r : Option Value} {M2 : zM} (h : zStep ow rt ini ins pc L S M = some (.inr (.inr (r, M2)))) {H : Heap} {locs : List Loc} {ls : Array Slot} {cells slots : Nat} (I : zInv B D ty s nL aS M H locs ls L) : W p l e R s m args below meth c H locs cells slots (MQ below (zQc B D ty r M) args s cells slots (fun q => B ≤ q)) (F0 m pc ls S) := by
  obtain ⟨hx, hb, hml, ⟨own, how, hown⟩, hts, hrt, hlk, hini, hK, hNk, hAO, hB, hZ⟩ := C
  obtain ⟨hP, hsz, hS, hL, hM1⟩ := I
  have hq : ∀ v : Option Value, ∀ t : State, t.heap = H → s.WarmedH t.vm → zQc B D ty v M args s (.returned v) t := fun v t ht hW => ⟨rfl, by rw [ht]; exact hP.moved hW.alike, by rw [ht]; exact hsz, hS.F ht⟩
  obtain ⟨hi, rfl⟩ := zStep_ret h
  rcases hi with rfl | rfl | rfl
  · obtain rfl : len = 1 := hl
    obtain ⟨v, rfl, hv, rfl, -⟩ := zRet_inv h
    rcases zRt_inv hv with ⟨-, h1, x, rfl⟩ | ⟨-, h1, x, rfl, hn⟩ | ⟨h0, -⟩
    · exact W.iret hx hb (hrt.trans h1) (hq _) hS.2.2 hd hlk
    · exact W.zret hx hb (hrt.trans h1) hn (hq _) hS.2.2 hd hlk
    · cases h0
  · obtain rfl : len = 1 := hl
    obtain ⟨v, rfl, hv, rfl, -⟩ := zRet_inv h
    rcases zRt_inv hv with ⟨h0, -⟩ | ⟨h0, -⟩ | ⟨-, h1, x, rfl⟩
    · cases h0
    · cases h0
    · exact W.lret hx hb (hrt.trans h1) (hq _) hS.2.2 hd hlk
  · obtain rfl : len = 1 := hl
    obtain ⟨rfl, h1, rfl, -⟩ := zRetV_inv h
    exact W.vret hx hb (hrt.trans h1) (hq _) hS.2.2 hd hlk
/-- a run -/
theorem z_walk {mi d : Nat} {rm : zMe} (hrm : zMeth[mi]? = some rm) (C : zCx p s m args meth c rm.2.1 nL B aS D ty (zow mi) (zrt mi) (zkd mi == 2)) (IH : ∀ a As M r M', zC d a As M (fun r' M'' => r' = r ∧ M'' = M') → zMet l B D ty aS d a As M r M') (hRf : d + 1 ≤ R.frames ∧ 40 * (d + 1) ≤ R.locals) {K : zK}
    (hfin : ∀ pc L S M r, zOut mi pc L S M = some (.inr (.inr (r, M))) → K r M → zAt p l e R s m args below meth c Q B D ty nL aS n0 pc L S M) (hcap : ∀ r M, K r M → M.2.1 ≤ s.heap.size + R.cells ∧ M.2.2.1 ≤ n0 + R.slots) :
    ∀ (n pc : Nat) (L : zL) (S : List Value) (M : zM), n0 ≤ M.2.2.1 → zR (zC d) mi n pc L S M K → zAt p l e R s m args below meth c Q B D ty nL aS n0 pc L S M := by
  intro n
  induction n with
  | zero => intro pc L S M _ h; exact h.elim
  | succ n ih =>
    intro pc L S M hn0 h
    have hg : zGo (zC d) (zR (zC d) mi n) K (zOut mi pc L S M) := h
    clear h
    cases ho : zOut mi pc L S M with
    | none => rw [ho] at hg; exact hg.elim
    | some o =>
      rw [ho] at hg
      have hstep : ∃ x, zI mi pc = some x ∧ zStep (zow mi) (zrt mi) (zkd mi == 2) x.1 pc L S M = some o := by
        unfold zOut at ho
        split at ho
        · next x hx => exact ⟨x, hx, ho⟩
        · cases ho
      obtain ⟨⟨ins, len⟩, hI, hst⟩ := hstep
      obtain ⟨hd, hl⟩ := zI_ok hrm hI
      match o, hg, ho, hst with
      | .inl (pc', L', S', M'), hg, ho, hst =>
        have hg : zR (zC d) mi n pc' L' S' M' K := hg
        obtain ⟨h1, h2, h3⟩ := zOut_next ho
        obtain ⟨r, M2, k1, k2, k3, -, -⟩ := zR_oneC d hg
        obtain ⟨c1, c2⟩ := hcap r M2 k1
        exact z_step C hd hl hst ⟨Nat.le_trans k2 c1, Nat.le_trans k3 c2⟩ hn0 ⟨by omega, by omega⟩ (ih pc' L' S' M' (Nat.le_trans hn0 h2) hg)
      | .inr (.inl (a, As, M1, pc', L', S')), hg, ho, hst =>
        obtain rfl := zOut_call ho
        obtain ⟨r1, M2, g1, g2, g3, g4, g5⟩ := zC_one d a As M1 _ hg
        obtain ⟨r, M3, k1, k2, k3, -, -⟩ := zR_oneC d g1
        obtain ⟨c1, c2⟩ := hcap r M3 k1
        exact z_call C hd hl hst (IH a As M1 r1 M2 g5) g2 g3 g4 ⟨Nat.le_trans k2 c1, Nat.le_trans k3 c2⟩ hn0 hRf (ih pc' L' _ M2 (Nat.le_trans hn0 g3) g1)
      | .inr (.inr (r, M1)), hg, ho, hst =>
        obtain rfl := zOut_ret ho
        exact hfin pc L S M1 r ho hg
end ZU
theorem zFla_2 {w : Value} {t : List Value} (h : w.category = 2) : zFla (w :: t) = some w :: none :: zFla t := by cases w <;> first | rfl | (simp [Value.category] at h)
theorem zFla_1 {w : Value} {t : List Value} (h : ¬ w.category = 2) : zFla (w :: t) = some w :: zFla t := by cases w <;> first | rfl | (simp [Value.category] at h)
theorem zFla_len : ∀ As : List Value, (zFla As).length = (lg_sl As).length := by
  intro As
  induction As with
  | nil => rfl
  | cons v t ih =>
    by_cases hc : v.category = 2
    · rw [zFla_2 hc]
      have e : lg_sl (v :: t) = [.val v, .second] ++ lg_sl t := by simp [lg_sl, hc]
      rw [e]
      simp [ih]
    · rw [zFla_1 hc]
      have e : lg_sl (v :: t) = [.val v] ++ lg_sl t := by simp [lg_sl, hc]
      rw [e]
      simp [ih]
theorem zFla_args : ∀ (As : List Value) (k i : Nat) (v : Value), (zFla As)[i]? = some (some v) → (k + i, v) ∈ lv_args k As := by
  intro As
  induction As with
  | nil => intro k i v h; simp [zFla] at h
  | cons w t ih =>
    intro k i v h
    by_cases hc : w.category = 2
    · rw [zFla_2 hc] at h
      have hl : lv_args k (w :: t) = (k, w) :: lv_args (k + 2) t := by simp [lv_args, hc]
      rw [hl]
      cases i with
      | zero => simp at h; subst h; exact List.mem_cons_self
      | succ i =>
        cases i with
        | zero => simp at h
        | succ i =>
          have h2 : (zFla t)[i]? = some (some v) := by simpa using h
          have h3 := ih (k + 2) i v h2
          have e : k + 2 + i = k + (i + 1 + 1) := by omega
          rw [e] at h3
          exact List.mem_cons_of_mem _ h3
    · rw [zFla_1 hc] at h
      have hl : lv_args k (w :: t) = (k, w) :: lv_args (k + 1) t := by simp [lv_args, hc]
      rw [hl]
      cases i with
      | zero => simp at h; subst h; exact List.mem_cons_self
      | succ i =>
        have h2 : (zFla t)[i]? = some (some v) := by simpa using h
        have h3 := ih (k + 1) i v h2
        have e : k + 1 + i = k + (i + 1) := by omega
        rw [e] at h3
        exact List.mem_cons_of_mem _ h3
theorem zHas_entry {As : List Value} {n : Nat} (h : (zFla As).length ≤ n) : zHas ((lg_sl As ++ List.replicate (n - (lg_sl As).length) Slot.unset).toArray) n (zEn n As) := by
  have hl := zFla_len As
  obtain ⟨h1, h2, h3⟩ := lv_entry As (n := n) (by rw [← hl]; exact h)
  refine ⟨by simp only [zEn, List.length_append, List.length_replicate]; omega, h1, h2, fun q hq => h3 q ?_⟩
  obtain ⟨i, v⟩ := q
  obtain ⟨g1, -⟩ := zAs_mem.mp hq
  unfold zEn at g1
  by_cases hi : i < (zFla As).length
  · rw [List.getElem?_append_left hi] at g1
    have := zFla_args As 0 i v g1
    rwa [Nat.zero_add] at this
  · rw [List.getElem?_append_right (by omega)] at g1
    have := List.eq_of_mem_replicate (List.mem_of_getElem? g1)
    cases this
/-- every run of our machine is a contract -/
theorem zC_met (l : Launch) (B : Nat) (D : va_G) (ty : Nat → ClassId) (aS : Nat) : ∀ (d a : Nat) (As : List Value) (M : zM) (r : Option Value) (M' : zM), zC d a As M (fun r' M'' => r' = r ∧ M'' = M') → zMet l B D ty aS d a As M r M' := by
  intro d
  induction d with
  | zero => intro a As M r M' h; exact h.elim
  | succ d IH =>
    intro a As M r M' h rm hrm hno
    obtain ⟨hlen, n, hR⟩ := h
    obtain ⟨w1, w2, w3, w4, w5, w6, w7, w8, w9, w10⟩ := zAll_get zmp_all hrm hno
    have hzml : zml a = rm.2.2.1 := by unfold zml; rw [hrm]
    have hzrt : zrt a = rm.2.2.2.1 := by unfold zrt; rw [hrm]
    have hzkd : zkd a = rm.2.2.2.2.2.2 := by unfold zkd; rw [hrm]
    refine va_MetF (cc := rm.2.1) (maxL := rm.2.2.1) (ret := rm.2.2.2.1) w8 rfl ?_
    intro p e s m args below meth c s₁ BL hml hv
    obtain ⟨rfl, hP, hsz, hK, hNk, hAO, hB, hM1, hZ⟩ := hv
    have hts0 := atoms_spec (ws := Cond.code rm.1 rm.2.1 rm.2.2.1 rm.2.2.2.1 :: zW) BL.pre
    have hts : ∀ w ∈ zW, w.before As.toArray s = true := fun w hw => hts0 w (List.mem_cons_of_mem _ hw)
    have hown : s.vm.findClass rm.1.cls = some m.cls := findClass_of_methodNamed BL.named
    have C : zCx p s m As.toArray meth c rm.2.1 rm.2.2.1 B aS D ty (zow a) (zrt a) (zkd a == 2) := by
      refine ⟨BL.exec, BL.bytes, hml, ⟨rm.1.cls, by rw [zow_ok hrm]; exact w6, hown⟩, hts, by rw [hzrt]; exact BL.returns, BL.notSynchronized, fun hk => ?_, hK, hNk, hAO, hB, hZ⟩
      rw [hzkd] at hk
      rw [(name_of_methodNamed BL.named BL.method).1]
      exact (w9 (by simpa using hk)).1
    obtain ⟨r2, M2, ⟨rfl, rfl⟩, g2, g3, -, -⟩ := zR_oneC d hR
    rw [lg_entry_eq]
    have hat := z_walk (n0 := M.2.2.1) (R := zRm (d + 1) (M2.2.1 - M.2.1) (M2.2.2.1 - M.2.2.1)) (Q := MQ below (zQc B D ty r2 M2) As.toArray s (M2.2.1 - M.2.1) (M2.2.2.1 - M.2.2.1) (fun q => B ≤ q)) (l := l) (e := e) (below := below) hrm C IH ⟨Nat.le_refl _, Nat.le_refl _⟩ (K := fun r' M'' => r' = r2 ∧ M'' = M2)
      (fun pc L S M1 r1 ho hk => by
        obtain ⟨rfl, rfl⟩ := hk
        intro H locs ls I
        unfold zOut at ho
        split at ho
        · next x hx =>
          obtain ⟨ins, len⟩ := x
          obtain ⟨hd, hl⟩ := zI_ok hrm hx
          have := z_ret (l := l) (e := e) (R := zRm (d + 1) (M1.2.1 - M.2.1) (M1.2.2.1 - M.2.2.1)) (below := below) (cells := M1.2.1 - M.2.1) (slots := M1.2.2.1 - M.2.2.1) C hd hl ho I
          rw [hsz]
          exact this
        · cases ho)
      (fun r' M'' hk => by
        obtain ⟨rfl, rfl⟩ := hk
        rw [hsz]
        show M''.2.1 ≤ M.2.1 + (M''.2.1 - M.2.1) ∧ M''.2.2.1 ≤ M.2.2.1 + (M''.2.2.1 - M.2.2.1)
        omega) n 0 _ _ M (Nat.le_refl _) hR
    rw [hzml] at hat
    have hfin := hat s.heap [] _ ⟨hP, hsz, va_S.rf, zHas_entry (by rw [← hzml]; exact hlen), hM1⟩
    rw [hsz, Nat.sub_self, Nat.sub_self] at hfin
    exact hfin
