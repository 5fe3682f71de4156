/-! dressing a stone -/
def up {α : Type} (lo hi : Int) (g F : Int → α) : Int → α := fun s => if lo ≤ s ∧ s < hi then g s else F s
theorem up_none {α : Type} {lo : Int} {g F : Int → α} : up lo lo g F = F := by
  funext s
  unfold up
  rw [if_neg (by omega)]
theorem up_step {α : Type} {lo hi : Int} {g F : Int → α} (h : lo < hi) : up lo hi g F = up (lo + 1) hi g (fun s => if s = lo then g lo else F s) := by
  funext s
  unfold up
  dsimp only
  by_cases e : s = lo
  · subst e
    rw [if_pos (by omega), if_neg (by omega), if_pos rfl]
  · rw [if_neg e]
    by_cases q : lo ≤ s ∧ s < hi
    · rw [if_pos q, if_pos (by omega)]
    · rw [if_neg q, if_neg (by omega)]
theorem up_app {α : Type} {lo mid hi : Int} {g F : Int → α} (h : lo ≤ mid ∧ mid ≤ hi) : up mid hi g (up lo mid g F) = up lo hi g F := by
  funext s
  unfold up
  by_cases q : lo ≤ s ∧ s < hi
  · rw [if_pos q]
    by_cases q2 : mid ≤ s ∧ s < hi
    · rw [if_pos q2]
    · rw [if_neg q2, if_pos (by omega)]
  · rw [if_neg q, if_neg (by omega), if_neg (by omega)]
theorem zfor_prO {σ : Type} {f : Int → σ → σ} {Q : σ → Prop} {P : Int → Prop} : ∀ (n : Nat) (i : Int) (s : σ), (∀ j t, i ≤ j → j < i + n → (Q (f j t) ↔ Q t ∨ P j)) → (Q (zfor f n i s) ↔ Q s ∨ ∃ j, i ≤ j ∧ j < i + n ∧ P j) := by
  intro n
  induction n with
  | zero =>
    intro i s h
    rw [zfor_0]
    exact ⟨Or.inl, fun q => q.elim id (fun ⟨j, h1, h2, _⟩ => by omega)⟩
  | succ n ih =>
    intro i s h
    rw [zfor_s, ih (i + 1) (f i s) (fun j t h1 h2 => h j t (by omega) (by omega)), h i s (by omega) (by omega)]
    constructor
    · rintro ((q | q) | ⟨j, h1, h2, h3⟩)
      · exact Or.inl q
      · exact Or.inr ⟨i, by omega, by omega, q⟩
      · exact Or.inr ⟨j, by omega, by omega, h3⟩
    · rintro (q | ⟨j, h1, h2, h3⟩)
      · exact Or.inl (Or.inl q)
      · by_cases c : j = i
        · subst c; exact Or.inl (Or.inr h3)
        · exact Or.inr ⟨j, by omega, by omega, h3⟩
section ST
variable {h : Nat} {F C F' C' : Int → Bool} {G G' : Int → Int} {M : zM}
theorem XS1_F (x : XS1 h F C G M) : XS1 h F' C G (zset M (h + 1) (zAb 192 F')) := by
  obtain ⟨q1, q2, q3, q4, ⟨A, q5⟩, B, q6⟩ := x
  exact ⟨(zget_set_ne (by omega)).trans q1, zget_set_eq, (zget_set_ne (by omega)).trans q3, (zget_set_ne (by omega)).trans q4, ⟨A, (zget_set_ne (by omega)).trans q5⟩, B, (zget_set_ne (by omega)).trans q6⟩
theorem XS1_C (x : XS1 h F C G M) : XS1 h F C' G (zset M (h + 2) (zAb 192 C')) := by
  obtain ⟨q1, q2, q3, q4, ⟨A, q5⟩, B, q6⟩ := x
  exact ⟨(zget_set_ne (by omega)).trans q1, (zget_set_ne (by omega)).trans q2, zget_set_eq, (zget_set_ne (by omega)).trans q4, ⟨A, (zget_set_ne (by omega)).trans q5⟩, B, (zget_set_ne (by omega)).trans q6⟩
theorem XS1_G (x : XS1 h F C G M) : XS1 h F C G' (zset M (h + 3) (zA 10 192 G')) := by
  obtain ⟨q1, q2, q3, q4, ⟨A, q5⟩, B, q6⟩ := x
  exact ⟨(zget_set_ne (by omega)).trans q1, (zget_set_ne (by omega)).trans q2, (zget_set_ne (by omega)).trans q3, zget_set_eq, ⟨A, (zget_set_ne (by omega)).trans q5⟩, B, (zget_set_ne (by omega)).trans q6⟩
theorem XS1_ext (x : XS1 h F C G M) (e1 : ∀ j, 0 ≤ j → j < 192 → F j = F' j) (e2 : ∀ j, 0 ≤ j → j < 192 → C j = C' j) (e3 : ∀ j, 0 ≤ j → j < 192 → G j = G' j) : XS1 h F' C' G' M := by
  obtain ⟨q1, q2, q3, q4, q5⟩ := x
  exact ⟨q1, q2.trans (congrArg some (zAb_ext e1)), q3.trans (congrArg some (zAb_ext e2)), q4.trans (congrArg some (zA_ext e3)), q5⟩
theorem XS_up1 {b : Nat} {k : Int} {f c : Int → Bool} {g : Int → Int} {M' : zM} (x : XS b F C G M) (hk : 0 ≤ k ∧ k ≤ 3) (y : XS1 (zst b k) f c g M') (fr : zFr (zst b k) 6 M M') (e1 : ∀ j, 0 ≤ j → j < 192 → f j = F' (192 * k + j)) (e2 : ∀ j, 0 ≤ j → j < 192 → c j = C' (192 * k + j)) (e3 : ∀ j, 0 ≤ j → j < 192 → g j = G' (192 * k + j)) (o1 : ∀ s, 0 ≤ s → s < 768 → (s < 192 * k ∨ 192 * k + 192 ≤ s) → F s = F' s ∧ C s = C' s ∧ G s = G' s) : XS b F' C' G' M' := by
  intro j a1 a2
  by_cases hj : j = k
  · subst hj
    exact XS1_ext y e1 e2 e3
  · have hn := zst_ne (b := b) (j := j) (k := k) ⟨a1, hk.1, hj⟩
    exact XS1_ext (XS1_fr (x j a1 a2) fr (by omega)) (fun i i1 i2 => (o1 _ (by omega) (by omega) (by omega)).1) (fun i i1 i2 => (o1 _ (by omega) (by omega) (by omega)).2.1) (fun i i1 i2 => (o1 _ (by omega) (by omega) (by omega)).2.2)
end ST
/-- the harps' furrows -/
def dTst (h p l r a j i : Int) : Bool := decide ((24 * j / h + i * p + l * r / 8) % 24 = a)
def dP (h m p l r a : Int) : Bool := zfor (fun j b => zfor (fun i b => b || dTst h p l r a j i) m.toNat 0 b) h.toNat 0 false
def dQ (h m p l q : Int) : Bool := dP h m p l (q / 24) (q % 24)
def okD (h m p l ap : Int) : Prop := h * ap = 24 ∧ 1 ≤ h ∧ h ≤ 12 ∧ 1 ≤ ap ∧ ap ≤ 24 ∧ 1 ≤ m ∧ m ≤ 4 ∧ 1 ≤ p ∧ p ≤ 24 ∧ -24 ≤ l ∧ l ≤ 24
theorem okD_div {h m p l ap : Int} (o : okD h m p l ap) (j : Int) : 24 * j / h = j * ap := by
  obtain ⟨o1, o2, -⟩ := o
  rw [← o1, Int.mul_assoc, Int.mul_ediv_cancel_left _ (by omega), Int.mul_comm]
theorem okD_rng {h m p l ap : Int} (o : okD h m p l ap) {r j i : Int} (hr : 0 ≤ r ∧ r < 8) (hj : 0 ≤ j ∧ j < h) (hi : 0 ≤ i ∧ i < m) : (0 ≤ j * ap ∧ j * ap ≤ 288) ∧ (0 ≤ i * p ∧ i * p ≤ 96) ∧ (-168 ≤ l * r ∧ l * r ≤ 168) := by
  obtain ⟨o1, o2, o3, o4, o5, o6, o7, o8, o9, o10, o11⟩ := o
  have m1 := mul_rng (x := j) (y := ap) (A := 12) (B := 24) (by omega) (by omega) (by omega)
  have m2 := mul_rng (x := i) (y := p) (A := 4) (B := 24) (by omega) (by omega) (by omega)
  have m3 := mul_rng (x := r) (y := l) (A := 7) (B := 24) (by omega) (by omega) (by omega)
  have p1 := Int.mul_nonneg hj.1 (show 0 ≤ ap by omega)
  have p2 := Int.mul_nonneg hi.1 (show 0 ≤ p by omega)
  rw [Int.mul_comm r l] at m3
  omega
theorem dP_iff {h m p l r a : Int} (hh : 0 ≤ h ∧ 0 ≤ m) : dP h m p l r a = true ↔ ∃ j, 0 ≤ j ∧ j < h ∧ ∃ i, 0 ≤ i ∧ i < m ∧ (24 * j / h + i * p + l * r / 8) % 24 = a := by
  unfold dP
  rw [zfor_prO (Q := fun b : Bool => b = true) (P := fun j => ∃ i, 0 ≤ i ∧ i < 0 + ((m.toNat : Nat) : Int) ∧ dTst h p l r a j i = true) h.toNat 0 false (fun j t _ _ => zfor_prO (Q := fun b : Bool => b = true) (P := fun i => dTst h p l r a j i = true) m.toNat 0 t (fun i u _ _ => Bool.or_eq_true_iff))]
  constructor
  · rintro (q | ⟨j, h1, h2, i, h3, h4, h5⟩)
    · cases q
    · exact ⟨j, h1, by omega, i, h3, by omega, of_decide_eq_true h5⟩
  · rintro ⟨j, h1, h2, i, h3, h4, h5⟩
    exact Or.inr ⟨j, h1, by omega, i, h3, by omega, decide_eq_true h5⟩
def fI (ap p l r j i : Int) (F : Int → Bool) : Int → Bool := fun s => if s = r * 24 + (j * ap + i * p + l * r / 8) % 24 then true else F s
def fX (h m p l ap : Int) (F : Int → Bool) : Int → Bool := zfor (fun r F => zfor (fun j F => zfor (fI ap p l r j) m.toNat 0 F) h.toNat 0 F) 8 0 F
theorem fX_dQ {h m p l ap : Int} (o : okD h m p l ap) {s : Int} (hs : 0 ≤ s ∧ s < 192) : fX h m p l ap (fun _ => false) s = dQ h m p l s := by
  rw [Bool.eq_iff_iff]
  unfold dQ
  rw [dP_iff (by unfold okD at o; omega)]
  unfold fX
  rw [zfor_prO (Q := fun F : Int → Bool => F s = true) (P := fun r => ∃ j, 0 ≤ j ∧ j < 0 + ((h.toNat : Nat) : Int) ∧ ∃ i, 0 ≤ i ∧ i < 0 + ((m.toNat : Nat) : Int) ∧ s = r * 24 + (j * ap + i * p + l * r / 8) % 24) 8 0 _ (fun r F _ _ => zfor_prO (Q := fun F : Int → Bool => F s = true) (P := fun j => ∃ i, 0 ≤ i ∧ i < 0 + ((m.toNat : Nat) : Int) ∧ s = r * 24 + (j * ap + i * p + l * r / 8) % 24) h.toNat 0 F (fun j F _ _ => zfor_prO (Q := fun F : Int → Bool => F s = true) (P := fun i => s = r * 24 + (j * ap + i * p + l * r / 8) % 24) m.toNat 0 F (fun i F _ _ => by
    unfold fI
    by_cases c : s = r * 24 + (j * ap + i * p + l * r / 8) % 24
    · rw [if_pos c]; exact ⟨fun _ => Or.inr c, fun _ => rfl⟩
    · rw [if_neg c]; exact ⟨Or.inl, fun q => q.elim id (fun z => absurd z c)⟩)))]
  constructor
  · rintro (q | ⟨r, h1, h2, j, h3, h4, i, h5, h6, h7⟩)
    · cases q
    · refine ⟨j, h3, by omega, i, h5, by omega, ?_⟩
      rw [okD_div o, show s / 24 = r by omega]
      omega
  · rintro ⟨j, h3, h4, i, h5, h6, h7⟩
    rw [okD_div o] at h7
    exact Or.inr ⟨s / 24, by omega, by omega, j, h3, by omega, i, h5, by omega, by omega⟩
section CUT
variable {b h0 c : Nat} {v w : Nat → Int} {F C D : Int → Bool} {G : Int → Int} {R : Nat → Int → Int} {M : zM}
theorem l_64a (h m p l ap : Int) : ∀ (n : Nat) (i : Int) (F C : Int → Bool) (M : zM) (u7 u8 u9 : Option Value), XS1 h0 F C G M → i + n = 192 → 0 ≤ i → ∃ M', (∀ (d : Nat) (K : zK), Ev d 64 23 [some (.ref h0), some (.int (zi h)), some (.int (zi m)), some (.int (zi p)), some (.int (zi l)), some (.int (zi ap)), some (.int (zi i)), u7, u8, u9] [.int (zi 192), .int (zi i)] M K = Ev d 64 48 [some (.ref h0), some (.int (zi h)), some (.int (zi m)), some (.int (zi p)), some (.int (zi l)), some (.int (zi ap)), some (.int (zi 192)), u7, u8, u9] [] M' K) ∧ XS1 h0 (up i 192 (fun _ => false) F) (up i 192 (fun _ => false) C) G M' ∧ zFr h0 6 M M' := by
  intro n
  induction n with
  | zero =>
    intro i F C M u7 u8 u9 x hi q0
    obtain rfl : i = 192 := by omega
    refine ⟨M, fun d K => ?_, by rw [up_none, up_none]; exact x, zFr_refl⟩
    simp (disch := omega) only [zen_64, e_64_0, e_64_1t, e_64_1f, e_64_4, e_64_6, e_64_7, e_64_8, e_64_11, e_64_13, e_64_15, e_64_16, e_64_18, e_64_20, e_64_23t, e_64_23f, e_64_26, e_64_27, e_64_30, e_64_32, e_64_33, e_64_34, e_64_35, e_64_38, e_64_40, e_64_41, e_64_42, e_64_45, e_64_49, e_64_51, e_64_53, e_64_55t, e_64_55f, e_64_58, e_64_60, e_64_62, e_64_63, e_64_65, e_64_68, e_64_70, e_64_71, e_64_73, e_64_75, e_64_76t, e_64_76f, e_64_79, e_64_80, e_64_82, e_64_84, e_64_85t, e_64_85f, e_64_88, e_64_89, e_64_91, e_64_93, e_64_95, e_64_96, e_64_98, e_64_99, e_64_100, e_64_101, e_64_103, e_64_104, e_64_107, e_64_110, e_64_113, e_64_116, e_64_119, e_64_122, e_64_125, e_64_126, e_64_129, zgf_6_0, zgf_6_1, zPa_some, zPn_some, zRK_some, zRK_none, zCk_t, zis_ob, zget_set_eq, zget_set_ne, zAld_10, zAld_11, zAst_10, zAst_11, zAlen_10, zAlen_11, zbd_t, zbd_f, zb_t, zb_f, zset_set, s_one0, s_one1, zis_so]
  | succ n ih =>
    intro i F C M u7 u8 u9 x hi q0
    have y := XS1_C (C' := fun j => if j = i then false else C j) (XS1_F (F' := fun j => if j = i then false else F j) x)
    obtain ⟨M', e1, e2, e3⟩ := ih (i + 1) _ _ _ u7 u8 u9 y (by omega) (by omega)
    refine ⟨M', fun d K => ?_, by rw [up_step (by omega), up_step (F := C) (by omega)]; exact e2, zFr_trans (zFr_trans (zFr_set (by omega)) (zFr_set (by omega))) e3⟩
    have q1 := x.1
    have q2 := x.2.1
    have q3 := x.2.2.1
    unfold zSo at q1
    refine Eq.trans ?_ (e1 d K)
    simp (disch := omega) only [zen_64, e_64_0, e_64_1t, e_64_1f, e_64_4, e_64_6, e_64_7, e_64_8, e_64_11, e_64_13, e_64_15, e_64_16, e_64_18, e_64_20, e_64_23t, e_64_23f, e_64_26, e_64_27, e_64_30, e_64_32, e_64_33, e_64_34, e_64_35, e_64_38, e_64_40, e_64_41, e_64_42, e_64_45, e_64_49, e_64_51, e_64_53, e_64_55t, e_64_55f, e_64_58, e_64_60, e_64_62, e_64_63, e_64_65, e_64_68, e_64_70, e_64_71, e_64_73, e_64_75, e_64_76t, e_64_76f, e_64_79, e_64_80, e_64_82, e_64_84, e_64_85t, e_64_85f, e_64_88, e_64_89, e_64_91, e_64_93, e_64_95, e_64_96, e_64_98, e_64_99, e_64_100, e_64_101, e_64_103, e_64_104, e_64_107, e_64_110, e_64_113, e_64_116, e_64_119, e_64_122, e_64_125, e_64_126, e_64_129, zgf_6_0, zgf_6_1, zPa_some, zPn_some, zRK_some, zRK_none, zCk_t, zis_ob, zget_set_eq, zget_set_ne, zAld_10, zAld_11, zAst_10, zAst_11, zAlen_10, zAlen_11, zbd_t, zbd_f, zb_t, zb_f, zset_set, s_one0, s_one1, zis_so, q1, q2, q3, zAst_b0]
theorem l_64i (h m p l ap r j : Int) (o : okD h m p l ap) (hr : 0 ≤ r ∧ r < 8) (hj : 0 ≤ j ∧ j < h) : ∀ (n : Nat) (i : Int) (F : Int → Bool) (M : zM), XS1 h0 F C G M → i + n = m → 0 ≤ i → ∃ M', (∀ (d : Nat) (K : zK), Ev (d + 4) 64 85 [some (.ref h0), some (.int (zi h)), some (.int (zi m)), some (.int (zi p)), some (.int (zi l)), some (.int (zi ap)), some (.int (zi r)), some (.int (zi (l * r / 8))), some (.int (zi j)), some (.int (zi i))] [.int (zi m), .int (zi i)] M K = Ev (d + 4) 64 113 [some (.ref h0), some (.int (zi h)), some (.int (zi m)), some (.int (zi p)), some (.int (zi l)), some (.int (zi ap)), some (.int (zi r)), some (.int (zi (l * r / 8))), some (.int (zi j)), some (.int (zi m))] [] M' K) ∧ XS1 h0 (zfor (fI ap p l r j) n i F) C G M' ∧ zFr h0 6 M M' := by
  intro n
  have oo := o
  unfold okD at oo
  induction n with
  | zero =>
    intro i F M x hi q0
    obtain rfl : i = m := by omega
    refine ⟨M, fun d K => ?_, x, zFr_refl⟩
    simp (disch := omega) only [zen_64, e_64_0, e_64_1t, e_64_1f, e_64_4, e_64_6, e_64_7, e_64_8, e_64_11, e_64_13, e_64_15, e_64_16, e_64_18, e_64_20, e_64_23t, e_64_23f, e_64_26, e_64_27, e_64_30, e_64_32, e_64_33, e_64_34, e_64_35, e_64_38, e_64_40, e_64_41, e_64_42, e_64_45, e_64_48, e_64_49, e_64_51, e_64_53, e_64_55t, e_64_55f, e_64_58, e_64_60, e_64_62, e_64_63, e_64_65, e_64_68, e_64_70, e_64_71, e_64_73, e_64_75, e_64_76t, e_64_76f, e_64_79, e_64_80, e_64_82, e_64_84, e_64_85t, e_64_85f, e_64_88, e_64_89, e_64_91, e_64_93, e_64_95, e_64_96, e_64_98, e_64_99, e_64_100, e_64_101, e_64_103, e_64_104, e_64_107, e_64_110, e_64_116, e_64_119, e_64_122, e_64_125, e_64_126, e_64_129, zgf_6_0, zgf_6_1, zPa_some, zPn_some, zRK_some, zRK_none, zCk_t, zis_ob, zget_set_eq, zget_set_ne, zAld_10, zAld_11, zAst_10, zAst_11, zAlen_10, zAlen_11, zbd_t, zbd_f, zb_t, zb_f, zset_set, s_one0, s_one1, zis_so]
  | succ n ih =>
    intro i F M x hi q0
    have rg := okD_rng o hr hj (i := i) (by omega)
    obtain ⟨M', e1, e2, e3⟩ := ih (i + 1) _ _ (XS1_F (F' := fI ap p l r j i F) x) (by omega) (by omega)
    refine ⟨M', fun d K => ?_, e2, zFr_trans (zFr_set (by omega)) e3⟩
    have q1 := x.1
    have e := s_setFurrow x.1 x.2.1
    refine Eq.trans ?_ (e1 d K)
    simp (disch := omega) only [zen_64, e_64_0, e_64_1t, e_64_1f, e_64_4, e_64_6, e_64_7, e_64_8, e_64_11, e_64_13, e_64_15, e_64_16, e_64_18, e_64_20, e_64_23t, e_64_23f, e_64_26, e_64_27, e_64_30, e_64_32, e_64_33, e_64_34, e_64_35, e_64_38, e_64_40, e_64_41, e_64_42, e_64_45, e_64_48, e_64_49, e_64_51, e_64_53, e_64_55t, e_64_55f, e_64_58, e_64_60, e_64_62, e_64_63, e_64_65, e_64_68, e_64_70, e_64_71, e_64_73, e_64_75, e_64_76t, e_64_76f, e_64_79, e_64_80, e_64_82, e_64_84, e_64_85t, e_64_85f, e_64_88, e_64_89, e_64_91, e_64_93, e_64_95, e_64_96, e_64_98, e_64_99, e_64_100, e_64_101, e_64_103, e_64_104, e_64_107, e_64_110, e_64_116, e_64_119, e_64_122, e_64_125, e_64_126, e_64_129, zgf_6_0, zgf_6_1, zPa_some, zPn_some, zRK_some, zRK_none, zCk_t, zis_ob, zget_set_eq, zget_set_ne, zAld_10, zAld_11, zAst_10, zAst_11, zAlen_10, zAlen_11, zbd_t, zbd_f, zb_t, zb_f, zset_set, s_one0, s_one1, zis_so, q1, e]
    rfl
theorem l_64j (h m p l ap r : Int) (o : okD h m p l ap) (hr : 0 ≤ r ∧ r < 8) : ∀ (n : Nat) (j : Int) (F : Int → Bool) (M : zM) (u : Option Value), XS1 h0 F C G M → j + n = h → 0 ≤ j → ∃ M' u', (∀ (d : Nat) (K : zK), Ev (d + 4) 64 76 [some (.ref h0), some (.int (zi h)), some (.int (zi m)), some (.int (zi p)), some (.int (zi l)), some (.int (zi ap)), some (.int (zi r)), some (.int (zi (l * r / 8))), some (.int (zi j)), u] [.int (zi h), .int (zi j)] M K = Ev (d + 4) 64 119 [some (.ref h0), some (.int (zi h)), some (.int (zi m)), some (.int (zi p)), some (.int (zi l)), some (.int (zi ap)), some (.int (zi r)), some (.int (zi (l * r / 8))), some (.int (zi h)), u'] [] M' K) ∧ XS1 h0 (zfor (fun j F => zfor (fI ap p l r j) m.toNat 0 F) n j F) C G M' ∧ zFr h0 6 M M' := by
  intro n
  have oo := o
  unfold okD at oo
  induction n with
  | zero =>
    intro j F M u x hi q0
    obtain rfl : j = h := by omega
    refine ⟨M, u, fun d K => ?_, x, zFr_refl⟩
    simp (disch := omega) only [zen_64, e_64_0, e_64_1t, e_64_1f, e_64_4, e_64_6, e_64_7, e_64_8, e_64_11, e_64_13, e_64_15, e_64_16, e_64_18, e_64_20, e_64_23t, e_64_23f, e_64_26, e_64_27, e_64_30, e_64_32, e_64_33, e_64_34, e_64_35, e_64_38, e_64_40, e_64_41, e_64_42, e_64_45, e_64_48, e_64_49, e_64_51, e_64_53, e_64_55t, e_64_55f, e_64_58, e_64_60, e_64_62, e_64_63, e_64_65, e_64_68, e_64_70, e_64_71, e_64_73, e_64_75, e_64_76t, e_64_76f, e_64_79, e_64_80, e_64_82, e_64_84, e_64_88, e_64_89, e_64_91, e_64_93, e_64_95, e_64_96, e_64_98, e_64_99, e_64_100, e_64_101, e_64_103, e_64_104, e_64_107, e_64_110, e_64_113, e_64_116, e_64_122, e_64_125, e_64_126, e_64_129, zgf_6_0, zgf_6_1, zPa_some, zPn_some, zRK_some, zRK_none, zCk_t, zis_ob, zget_set_eq, zget_set_ne, zAld_10, zAld_11, zAst_10, zAst_11, zAlen_10, zAlen_11, zbd_t, zbd_f, zb_t, zb_f, zset_set, s_one0, s_one1, zis_so]
  | succ n ih =>
    intro j F M u x hi q0
    obtain ⟨M1, a1, a2, a3⟩ := l_64i (h0 := h0) (C := C) (G := G) h m p l ap r j o hr (by omega) m.toNat 0 F M x (by omega) (by omega)
    obtain ⟨M', u', e1, e2, e3⟩ := ih (j + 1) _ M1 (some (.int (zi m))) a2 (by omega) (by omega)
    refine ⟨M', u', fun d K => ?_, e2, zFr_trans a3 e3⟩
    rw [← e1 d K]
    simp (disch := omega) only [zen_64, e_64_0, e_64_1t, e_64_1f, e_64_4, e_64_6, e_64_7, e_64_8, e_64_11, e_64_13, e_64_15, e_64_16, e_64_18, e_64_20, e_64_23t, e_64_23f, e_64_26, e_64_27, e_64_30, e_64_32, e_64_33, e_64_34, e_64_35, e_64_38, e_64_40, e_64_41, e_64_42, e_64_45, e_64_48, e_64_49, e_64_51, e_64_53, e_64_55t, e_64_55f, e_64_58, e_64_60, e_64_62, e_64_63, e_64_65, e_64_68, e_64_70, e_64_71, e_64_73, e_64_75, e_64_76t, e_64_76f, e_64_79, e_64_80, e_64_82, e_64_84, e_64_88, e_64_89, e_64_91, e_64_93, e_64_95, e_64_96, e_64_98, e_64_99, e_64_100, e_64_101, e_64_103, e_64_104, e_64_107, e_64_110, e_64_116, e_64_122, e_64_125, e_64_126, e_64_129, zgf_6_0, zgf_6_1, zPa_some, zPn_some, zRK_some, zRK_none, zCk_t, zis_ob, zget_set_eq, zget_set_ne, zAld_10, zAld_11, zAst_10, zAst_11, zAlen_10, zAlen_11, zbd_t, zbd_f, zb_t, zb_f, zset_set, s_one0, s_one1, zis_so]
    rw [a1]
    simp (disch := omega) only [zen_64, e_64_0, e_64_1t, e_64_1f, e_64_4, e_64_6, e_64_7, e_64_8, e_64_11, e_64_13, e_64_15, e_64_16, e_64_18, e_64_20, e_64_23t, e_64_23f, e_64_26, e_64_27, e_64_30, e_64_32, e_64_33, e_64_34, e_64_35, e_64_38, e_64_40, e_64_41, e_64_42, e_64_45, e_64_48, e_64_49, e_64_51, e_64_53, e_64_55t, e_64_55f, e_64_58, e_64_60, e_64_62, e_64_63, e_64_65, e_64_68, e_64_70, e_64_71, e_64_73, e_64_75, e_64_79, e_64_80, e_64_82, e_64_84, e_64_88, e_64_89, e_64_91, e_64_93, e_64_95, e_64_96, e_64_98, e_64_99, e_64_100, e_64_101, e_64_103, e_64_104, e_64_107, e_64_110, e_64_113, e_64_116, e_64_122, e_64_125, e_64_126, e_64_129, zgf_6_0, zgf_6_1, zPa_some, zPn_some, zRK_some, zRK_none, zCk_t, zis_ob, zget_set_eq, zget_set_ne, zAld_10, zAld_11, zAst_10, zAst_11, zAlen_10, zAlen_11, zbd_t, zbd_f, zb_t, zb_f, zset_set, s_one0, s_one1, zis_so]
theorem l_64r (h m p l ap : Int) (o : okD h m p l ap) : ∀ (n : Nat) (r : Int) (F : Int → Bool) (M : zM) (u7 u8 u9 : Option Value), XS1 h0 F C G M → r + n = 8 → 0 ≤ r → ∃ M' u7' u8' u9', (∀ (d : Nat) (K : zK), Ev (d + 4) 64 55 [some (.ref h0), some (.int (zi h)), some (.int (zi m)), some (.int (zi p)), some (.int (zi l)), some (.int (zi ap)), some (.int (zi r)), u7, u8, u9] [.int (zi 8), .int (zi r)] M K = Ev (d + 4) 64 125 [some (.ref h0), some (.int (zi h)), some (.int (zi m)), some (.int (zi p)), some (.int (zi l)), some (.int (zi ap)), some (.int (zi 8)), u7', u8', u9'] [] M' K) ∧ XS1 h0 (zfor (fun r F => zfor (fun j F => zfor (fI ap p l r j) m.toNat 0 F) h.toNat 0 F) n r F) C G M' ∧ zFr h0 6 M M' := by
  intro n
  have oo := o
  unfold okD at oo
  induction n with
  | zero =>
    intro r F M u7 u8 u9 x hi q0
    obtain rfl : r = 8 := by omega
    refine ⟨M, u7, u8, u9, fun d K => ?_, x, zFr_refl⟩
    simp (disch := omega) only [zen_64, e_64_0, e_64_1t, e_64_1f, e_64_4, e_64_6, e_64_7, e_64_8, e_64_11, e_64_13, e_64_15, e_64_16, e_64_18, e_64_20, e_64_23t, e_64_23f, e_64_26, e_64_27, e_64_30, e_64_32, e_64_33, e_64_34, e_64_35, e_64_38, e_64_40, e_64_41, e_64_42, e_64_45, e_64_48, e_64_49, e_64_51, e_64_53, e_64_55t, e_64_55f, e_64_58, e_64_60, e_64_62, e_64_63, e_64_65, e_64_68, e_64_70, e_64_71, e_64_73, e_64_75, e_64_79, e_64_80, e_64_82, e_64_84, e_64_85t, e_64_85f, e_64_88, e_64_89, e_64_91, e_64_93, e_64_95, e_64_96, e_64_98, e_64_99, e_64_100, e_64_101, e_64_103, e_64_104, e_64_107, e_64_110, e_64_113, e_64_116, e_64_119, e_64_122, e_64_126, e_64_129, zgf_6_0, zgf_6_1, zPa_some, zPn_some, zRK_some, zRK_none, zCk_t, zis_ob, zget_set_eq, zget_set_ne, zAld_10, zAld_11, zAst_10, zAst_11, zAlen_10, zAlen_11, zbd_t, zbd_f, zb_t, zb_f, zset_set, s_one0, s_one1, zis_so]
  | succ n ih =>
    intro r F M u7 u8 u9 x hi q0
    have rg := okD_rng o (r := r) (j := 0) (i := 0) (by omega) (by omega) (by omega)
    obtain ⟨M1, u1, a1, a2, a3⟩ := l_64j (h0 := h0) (C := C) (G := G) h m p l ap r o (by omega) h.toNat 0 F M u9 x (by omega) (by omega)
    obtain ⟨M', u7', u8', u9', e1, e2, e3⟩ := ih (r + 1) _ M1 (some (.int (zi (l * r / 8)))) (some (.int (zi h))) u1 a2 (by omega) (by omega)
    refine ⟨M', u7', u8', u9', fun d K => ?_, e2, zFr_trans a3 e3⟩
    rw [← e1 d K]
    simp (disch := omega) only [zen_64, e_64_0, e_64_1t, e_64_1f, e_64_4, e_64_6, e_64_7, e_64_8, e_64_11, e_64_13, e_64_15, e_64_16, e_64_18, e_64_20, e_64_23t, e_64_23f, e_64_26, e_64_27, e_64_30, e_64_32, e_64_33, e_64_34, e_64_35, e_64_38, e_64_40, e_64_41, e_64_42, e_64_45, e_64_48, e_64_49, e_64_51, e_64_53, e_64_55t, e_64_55f, e_64_58, e_64_60, e_64_62, e_64_63, e_64_65, e_64_68, e_64_70, e_64_71, e_64_73, e_64_75, e_64_79, e_64_80, e_64_82, e_64_84, e_64_85t, e_64_85f, e_64_88, e_64_89, e_64_91, e_64_93, e_64_95, e_64_96, e_64_98, e_64_99, e_64_100, e_64_101, e_64_103, e_64_104, e_64_107, e_64_110, e_64_113, e_64_116, e_64_122, e_64_126, e_64_129, zgf_6_0, zgf_6_1, zPa_some, zPn_some, zRK_some, zRK_none, zCk_t, zis_ob, zget_set_eq, zget_set_ne, zAld_10, zAld_11, zAst_10, zAst_11, zAlen_10, zAlen_11, zbd_t, zbd_f, zb_t, zb_f, zset_set, s_one0, s_one1, zis_so, s_floorDiv8]
    rw [a1]
    simp (disch := omega) only [zen_64, e_64_0, e_64_1t, e_64_1f, e_64_4, e_64_6, e_64_7, e_64_8, e_64_11, e_64_13, e_64_15, e_64_16, e_64_18, e_64_20, e_64_23t, e_64_23f, e_64_26, e_64_27, e_64_30, e_64_32, e_64_33, e_64_34, e_64_35, e_64_38, e_64_40, e_64_41, e_64_42, e_64_45, e_64_48, e_64_49, e_64_51, e_64_53, e_64_58, e_64_60, e_64_62, e_64_63, e_64_65, e_64_68, e_64_70, e_64_71, e_64_73, e_64_75, e_64_79, e_64_80, e_64_82, e_64_84, e_64_85t, e_64_85f, e_64_88, e_64_89, e_64_91, e_64_93, e_64_95, e_64_96, e_64_98, e_64_99, e_64_100, e_64_101, e_64_103, e_64_104, e_64_107, e_64_110, e_64_113, e_64_116, e_64_119, e_64_122, e_64_126, e_64_129, zgf_6_0, zgf_6_1, zPa_some, zPn_some, zRK_some, zRK_none, zCk_t, zis_ob, zget_set_eq, zget_set_ne, zAld_10, zAld_11, zAst_10, zAst_11, zAlen_10, zAlen_11, zbd_t, zbd_f, zb_t, zb_f, zset_set, s_one0, s_one1, zis_so]
def gH (F : Int → Bool) : Int → Int := fun s => if F s = true then 40 else 60
theorem l_65 : ∀ (n : Nat) (i s : Int) (G : Int → Int) (M : zM), XS1 h0 F C G M → i + n = 192 → 0 ≤ i → ∃ M', (∀ (d : Nat) (K : zK), Ev (d + 1) 65 8 [some (.ref h0), some (.int (zi s)), some (.int (zi i))] [.int (zi 192), .int (zi i)] M K = K (some (.int (zi (zfor (fun q t => t + zb (F q)) n i s)))) M') ∧ XS1 h0 F C (up i 192 (gH F) G) M' ∧ zFr h0 6 M M' := by
  intro n
  induction n with
  | zero =>
    intro i s G M x hi q0
    obtain rfl : i = 192 := by omega
    refine ⟨M, fun d K => ?_, by rw [up_none]; exact x, zFr_refl⟩
    simp (disch := omega) only [zen_65, e_65_0, e_65_1, e_65_2, e_65_3, e_65_4, e_65_5, e_65_8t, e_65_8f, e_65_11, e_65_12, e_65_15, e_65_16, e_65_17, e_65_20, e_65_21, e_65_22t, e_65_22f, e_65_25, e_65_27, e_65_30, e_65_32, e_65_33, e_65_34, e_65_35, e_65_38, e_65_39, e_65_40, e_65_43, e_65_44, e_65_45, e_65_48, e_65_51, e_65_52, zgf_6_0, zgf_6_2, zPa_some, zPn_some, zRK_some, zRK_none, zCk_t, zis_ob, zget_set_eq, zget_set_ne, zAld_10, zAld_11, zAst_10, zAst_11, zAlen_10, zAlen_11, zbd_t, zbd_f, zb_t, zb_f, zset_set, s_one0, s_one1, zis_so, zfor_0]
  | succ n ih =>
    intro i s G M x hi q0
    have y := XS1_G (G' := fun j => if j = i then gH F i else G j) x
    obtain ⟨M', e1, e2, e3⟩ := ih (i + 1) (s + zb (F i)) _ _ y (by omega) (by omega)
    refine ⟨M', fun d K => ?_, by rw [up_step (by omega)]; exact e2, zFr_trans (zFr_set (by omega)) e3⟩
    have q1 := x.1
    have q2 := x.2.1
    have q4 := x.2.2.2.1
    unfold zSo at q1
    rw [zfor_s]
    refine Eq.trans ?_ (e1 d K)
    cases f : F i with
    | true =>
      rw [show (fun j => if j = i then gH F i else G j) = zu G i 40 by unfold gH zu; rw [if_pos f]]
      simp (disch := omega) only [zen_65, e_65_0, e_65_1, e_65_2, e_65_3, e_65_4, e_65_5, e_65_8t, e_65_8f, e_65_11, e_65_12, e_65_15, e_65_16, e_65_17, e_65_20, e_65_21, e_65_22t, e_65_22f, e_65_25, e_65_27, e_65_30, e_65_32, e_65_33, e_65_34, e_65_35, e_65_38, e_65_39, e_65_40, e_65_43, e_65_44, e_65_45, e_65_48, e_65_51, e_65_52, zgf_6_0, zgf_6_2, zPa_some, zPn_some, zRK_some, zRK_none, zCk_t, zis_ob, zget_set_eq, zget_set_ne, zAld_10, zAld_11, zAst_10, zAst_11, zAlen_10, zAlen_11, zbd_t, zbd_f, zb_t, zb_f, zset_set, s_one0, s_one1, zis_so, q1, q2, q4, zAld_b, f]
    | false =>
      rw [show (fun j => if j = i then gH F i else G j) = zu G i 60 by unfold gH zu; rw [if_neg (by rw [f]; decide)]]
      simp (disch := omega) only [zen_65, e_65_0, e_65_1, e_65_2, e_65_3, e_65_4, e_65_5, e_65_8t, e_65_8f, e_65_11, e_65_12, e_65_15, e_65_16, e_65_17, e_65_20, e_65_21, e_65_22t, e_65_22f, e_65_25, e_65_27, e_65_30, e_65_32, e_65_33, e_65_34, e_65_35, e_65_38, e_65_39, e_65_40, e_65_43, e_65_44, e_65_45, e_65_48, e_65_51, e_65_52, zgf_6_0, zgf_6_2, zPa_some, zPn_some, zRK_some, zRK_none, zCk_t, zis_ob, zget_set_eq, zget_set_ne, zAld_10, zAld_11, zAst_10, zAst_11, zAlen_10, zAlen_11, zbd_t, zbd_f, zb_t, zb_f, zset_set, s_one0, s_one1, zis_so, q1, q2, q4, zAld_b, f]
def nQ (h m p l : Int) : Int := zfor (fun q t => t + zb (dQ h m p l q)) 192 0 0
theorem s_cutHarps (x : XS1 h0 F C G M) (h m p l ap : Int) (o : okD h m p l ap) : ∃ M', (∀ (d : Nat) (K : zK), zC (d + 6) 64 [.ref h0, .int (zi h), .int (zi m), .int (zi p), .int (zi l)] M K = K (some (.int (zi (nQ h m p l)))) M') ∧ XS1 h0 (dQ h m p l) (fun _ => false) (gH (dQ h m p l)) M' ∧ zFr h0 6 M M' := by
  have oo := o
  unfold okD at oo
  obtain ⟨M1, a1, a2, a3⟩ := l_64a (h0 := h0) (G := G) h m p l ap 192 0 F C M none none none x (by omega) (by omega)
  have a2 := XS1_ext (F' := fun _ => false) (C' := fun _ => false) (G' := G) a2 (fun j h1 h2 => by unfold up; rw [if_pos (by omega)]) (fun j h1 h2 => by unfold up; rw [if_pos (by omega)]) (fun _ _ _ => rfl)
  obtain ⟨M2, u7, u8, u9, b1, b2, b3⟩ := l_64r (h0 := h0) h m p l ap o 8 0 _ M1 none none none a2 (by omega) (by omega)
  have b2 := XS1_ext (F' := dQ h m p l) (C' := fun _ => false) (G' := G) b2 (fun j h1 h2 => fX_dQ o ⟨h1, h2⟩) (fun _ _ _ => rfl) (fun _ _ _ => rfl)
  obtain ⟨M3, c1, c2, c3⟩ := l_65 (h0 := h0) 192 0 0 _ M2 b2 (by omega) (by omega)
  refine ⟨M3, fun d K => ?_, XS1_ext c2 (fun _ _ _ => rfl) (fun _ _ _ => rfl) (fun j h1 h2 => by unfold up; rw [if_pos (by omega)]), zFr_trans a3 (zFr_trans b3 c3)⟩
  have d0 : (24 : Int).tdiv h = ap := by
    rw [zdiv_f (by omega), ← oo.1, Int.mul_ediv_cancel_left _ (by omega)]
  have q2 := b2.1
  simp (disch := omega) only [zen_64, e_64_0, e_64_1t, e_64_1f, e_64_4, e_64_6, e_64_7, e_64_8, e_64_11, e_64_13, e_64_15, e_64_16, e_64_18, e_64_20, e_64_26, e_64_27, e_64_30, e_64_32, e_64_33, e_64_34, e_64_35, e_64_38, e_64_40, e_64_41, e_64_42, e_64_45, e_64_49, e_64_51, e_64_53, e_64_55t, e_64_55f, e_64_58, e_64_60, e_64_62, e_64_63, e_64_65, e_64_68, e_64_70, e_64_71, e_64_73, e_64_75, e_64_76t, e_64_76f, e_64_79, e_64_80, e_64_82, e_64_84, e_64_85t, e_64_85f, e_64_88, e_64_89, e_64_91, e_64_93, e_64_95, e_64_96, e_64_98, e_64_99, e_64_100, e_64_101, e_64_103, e_64_104, e_64_107, e_64_110, e_64_113, e_64_116, e_64_119, e_64_122, e_64_125, e_64_126, e_64_129, zgf_6_0, zgf_6_1, zPa_some, zPn_some, zRK_some, zRK_none, zCk_t, zis_ob, zget_set_eq, zget_set_ne, zAld_10, zAld_11, zAst_10, zAst_11, zAlen_10, zAlen_11, zbd_t, zbd_f, zb_t, zb_f, zset_set, s_one0, s_one1, zis_so, d0]
  rw [a1]
  simp (disch := omega) only [zen_64, e_64_0, e_64_1t, e_64_1f, e_64_4, e_64_6, e_64_7, e_64_8, e_64_11, e_64_13, e_64_15, e_64_16, e_64_18, e_64_20, e_64_26, e_64_27, e_64_30, e_64_32, e_64_33, e_64_34, e_64_35, e_64_38, e_64_40, e_64_41, e_64_42, e_64_45, e_64_48, e_64_49, e_64_51, e_64_53, e_64_58, e_64_60, e_64_62, e_64_63, e_64_65, e_64_68, e_64_70, e_64_71, e_64_73, e_64_75, e_64_76t, e_64_76f, e_64_79, e_64_80, e_64_82, e_64_84, e_64_85t, e_64_85f, e_64_88, e_64_89, e_64_91, e_64_93, e_64_95, e_64_96, e_64_98, e_64_99, e_64_100, e_64_101, e_64_103, e_64_104, e_64_107, e_64_110, e_64_113, e_64_116, e_64_119, e_64_122, e_64_126, e_64_129, zgf_6_0, zgf_6_1, zPa_some, zPn_some, zRK_some, zRK_none, zCk_t, zis_ob, zget_set_eq, zget_set_ne, zAld_10, zAld_11, zAst_10, zAst_11, zAlen_10, zAlen_11, zbd_t, zbd_f, zb_t, zb_f, zset_set, s_one0, s_one1, zis_so]
  rw [b1 (d + 1)]
  simp (disch := omega) only [zen_64, e_64_0, e_64_1t, e_64_1f, e_64_4, e_64_6, e_64_7, e_64_8, e_64_11, e_64_13, e_64_15, e_64_16, e_64_18, e_64_20, e_64_23t, e_64_23f, e_64_26, e_64_27, e_64_30, e_64_32, e_64_33, e_64_34, e_64_35, e_64_38, e_64_40, e_64_41, e_64_42, e_64_45, e_64_48, e_64_49, e_64_51, e_64_53, e_64_58, e_64_60, e_64_62, e_64_63, e_64_65, e_64_68, e_64_70, e_64_71, e_64_73, e_64_75, e_64_76t, e_64_76f, e_64_79, e_64_80, e_64_82, e_64_84, e_64_85t, e_64_85f, e_64_88, e_64_89, e_64_91, e_64_93, e_64_95, e_64_96, e_64_98, e_64_99, e_64_100, e_64_101, e_64_103, e_64_104, e_64_107, e_64_110, e_64_113, e_64_116, e_64_119, e_64_122, e_64_125, e_64_126, e_64_129, zgf_6_0, zgf_6_1, zen_65, e_65_0, e_65_1, e_65_2, e_65_3, e_65_4, e_65_5, e_65_11, e_65_12, e_65_15, e_65_16, e_65_17, e_65_20, e_65_21, e_65_22t, e_65_22f, e_65_25, e_65_27, e_65_30, e_65_32, e_65_33, e_65_34, e_65_35, e_65_38, e_65_39, e_65_40, e_65_43, e_65_44, e_65_45, e_65_48, e_65_51, e_65_52, zgf_6_2, zPa_some, zPn_some, zRK_some, zRK_none, zCk_t, zis_ob, zget_set_eq, zget_set_ne, zAld_10, zAld_11, zAst_10, zAst_11, zAlen_10, zAlen_11, zbd_t, zbd_f, zb_t, zb_f, zset_set, s_one0, s_one1, zis_so, q2]
  rw [c1 (d + 3)]
  simp (disch := omega) only [zen_64, e_64_0, e_64_1t, e_64_1f, e_64_4, e_64_6, e_64_7, e_64_8, e_64_11, e_64_13, e_64_15, e_64_16, e_64_18, e_64_20, e_64_23t, e_64_23f, e_64_26, e_64_27, e_64_30, e_64_32, e_64_33, e_64_34, e_64_35, e_64_38, e_64_40, e_64_41, e_64_42, e_64_45, e_64_48, e_64_49, e_64_51, e_64_53, e_64_55t, e_64_55f, e_64_58, e_64_60, e_64_62, e_64_63, e_64_65, e_64_68, e_64_70, e_64_71, e_64_73, e_64_75, e_64_76t, e_64_76f, e_64_79, e_64_80, e_64_82, e_64_84, e_64_85t, e_64_85f, e_64_88, e_64_89, e_64_91, e_64_93, e_64_95, e_64_96, e_64_98, e_64_99, e_64_100, e_64_101, e_64_103, e_64_104, e_64_107, e_64_110, e_64_113, e_64_116, e_64_119, e_64_122, e_64_125, e_64_126, e_64_129, zgf_6_0, zgf_6_1, zPa_some, zPn_some, zRK_some, zRK_none, zCk_t, zis_ob, zget_set_eq, zget_set_ne, zAld_10, zAld_11, zAst_10, zAst_11, zAlen_10, zAlen_11, zbd_t, zbd_f, zb_t, zb_f, zset_set, s_one0, s_one1, zis_so]
  rfl
end CUT
