/-! wear -/
theorem zfor_congr {σ : Type} {f g : Int → σ → σ} : ∀ (n : Nat) (i : Int) (s : σ), (∀ j t, i ≤ j → j < i + n → f j t = g j t) → zfor f n i s = zfor g n i s := by
  intro n
  induction n with
  | zero => intro i s h; rfl
  | succ n ih =>
    intro i s h
    rw [zfor_s, zfor_s, h i s (by omega) (by omega)]
    exact ih (i + 1) _ (fun j t h1 h2 => h j t (by omega) (by omega))
theorem zfor_app {σ : Type} {f : Int → σ → σ} : ∀ (n k : Nat) (i : Int) (s : σ), zfor f (n + k) i s = zfor f k (i + n) (zfor f n i s) := by
  intro n
  induction n with
  | zero => intro k i s; rw [zfor_0, Nat.zero_add]; congr 1; omega
  | succ n ih =>
    intro k i s
    rw [Nat.succ_add, zfor_s, ih, zfor_s]
    congr 1
    omega
theorem zfor_shift {σ : Type} {f : Int → σ → σ} (c : Int) : ∀ (n : Nat) (i : Int) (s : σ), zfor (fun j => f (c + j)) n i s = zfor f n (c + i) s := by
  intro n
  induction n with
  | zero => intro i s; rfl
  | succ n ih =>
    intro i s
    rw [zfor_s, zfor_s, ih]
    congr 1
    omega
/-- rings of 24 are a row -/
theorem zfor_nest {σ : Type} {f : Int → σ → σ} : ∀ (n : Nat) (r : Int) (s : σ), zfor (fun r t => zfor (fun a t => f (r * 24 + a) t) 24 0 t) n r s = zfor f (n * 24) (r * 24) s := by
  intro n
  induction n with
  | zero => intro r s; rw [Nat.zero_mul]; rfl
  | succ n ih =>
    intro r s
    rw [zfor_s, ih, show (n + 1) * 24 = 24 + n * 24 by omega, zfor_app, zfor_shift (f := f) (r * 24)]
    congr 1
    · omega
    · congr 1
      omega
/-- invariants of a run -/
theorem zfor_inv {σ : Type} {f : Int → σ → σ} (P : σ → Prop) : ∀ (n : Nat) (i : Int) (s : σ), P s → (∀ j t, i ≤ j → j < i + n → P t → P (f j t)) → P (zfor f n i s) := by
  intro n
  induction n with
  | zero => intro i s h _; exact h
  | succ n ih =>
    intro i s h hs
    rw [zfor_s]
    exact ih (i + 1) _ (hs i s (by omega) (by omega) h) (fun j t h1 h2 h3 => hs j t (by omega) (by omega) h3)
theorem zfor_or {P : Int → Bool} : ∀ (n : Nat) (i : Int) (b : Bool), zfor (fun j b => b || P j) n i b = true ↔ b = true ∨ ∃ j, i ≤ j ∧ j < i + n ∧ P j = true := by
  intro n
  induction n with
  | zero =>
    intro i b
    rw [zfor_0]
    exact ⟨Or.inl, fun h => h.elim id (fun ⟨j, h1, h2, _⟩ => by omega)⟩
  | succ n ih =>
    intro i b
    rw [zfor_s, ih]
    constructor
    · rintro (h | ⟨j, h1, h2, h3⟩)
      · rcases Bool.or_eq_true_iff.mp h with h | h
        · exact Or.inl h
        · exact Or.inr ⟨i, by omega, by omega, h⟩
      · exact Or.inr ⟨j, by omega, by omega, h3⟩
    · rintro (h | ⟨j, h1, h2, h3⟩)
      · exact Or.inl (by rw [h]; rfl)
      · by_cases hj : j = i
        · subst hj; exact Or.inl (by rw [h3, Bool.or_true])
        · exact Or.inr ⟨j, by omega, by omega, h3⟩
/-- a ring has land -/
def grd (F : Int → Bool) (r : Int) : Bool := zfor (fun a b => b || !F (r * 24 + a)) 24 0 false
theorem grd_iff {F : Int → Bool} {r : Int} : grd F r = true ↔ ∃ a, 0 ≤ a ∧ a < 24 ∧ F (r * 24 + a) = false := by
  unfold grd
  rw [zfor_or]
  constructor
  · rintro (h | ⟨j, h1, h2, h3⟩)
    · cases h
    · exact ⟨j, h1, by omega, by simpa using h3⟩
  · rintro ⟨j, h1, h2, h3⟩
    exact Or.inr ⟨j, h1, by omega, by simp [h3]⟩
section WEAR
variable {h fu cr he re nx h2 fu2 cr2 he2 re2 nx2 : Nat} {M : zM} {F C F2 : Int → Bool} {G : Int → Int}
theorem s_grd (hM : zget M h = some (zSo fu cr he re nx)) (hF : zget M fu = some (zAb 192 F)) : ∀ (d : Nat) (r : Int) (K : zK), 0 ≤ r ∧ r ≤ 7 → zC (d + 5) 78 [.ref h, .int (zi r)] M K = K (some (.int (zi (zb (grd F r))))) M := by
  intro d r K hr
  obtain ⟨b, hb, hk⟩ := s_hasLand hM hF r hr
  have e : b = grd F r := by rw [Bool.eq_iff_iff, hb, grd_iff]
  rw [hk, e]
def f_top (F2 F : Int → Bool) (G : Int → Int) (s t : Int) : Int := if grd F2 (s / 24) = true ∧ F s = false then max t (G s) else t
/-- the sectors of a ring -/
theorem l_80a (hM : zget M h = some (zSo fu cr he re nx)) (hF : zget M fu = some (zAb 192 F)) (hG : zget M he = some (zA 10 192 G)) (rG : ∀ j, 0 ≤ j → j < 192 → 0 ≤ G j ∧ G j ≤ 60) : ∀ (n : Nat) (a r t : Int), a + n = 24 → 0 ≤ a → 0 ≤ r ∧ r ≤ 7 → 0 ≤ t ∧ t ≤ 60 → grd F2 r = true → ∀ (d : Nat) (K : zK), Ev (d + 4) 80 28 [some (.ref h), some (.ref h2), some (.int (zi t)), some (.int (zi r)), some (.int (zi a))] [.int (zi 24), .int (zi a)] M K = Ev (d + 4) 80 59 [some (.ref h), some (.ref h2), some (.int (zi (zfor (fun a t => f_top F2 F G (r * 24 + a) t) n a t))), some (.int (zi r)), some (.int (zi 24))] [] M K := by
  intro n
  induction n with
  | zero =>
    intro a r t ha h0 hr ht hg d K
    rw [zfor_0, show a = 24 by omega]
    simp (disch := omega) only [zen_80, e_80_0, e_80_1, e_80_2, e_80_3, e_80_4, e_80_5, e_80_7t, e_80_7f, e_80_10, e_80_11, e_80_12, e_80_15t, e_80_15f, e_80_18, e_80_21, e_80_22, e_80_24, e_80_26, e_80_28t, e_80_28f, e_80_31, e_80_32, e_80_33, e_80_35, e_80_38t, e_80_38f, e_80_41, e_80_42, e_80_43, e_80_44, e_80_46, e_80_49, e_80_52, e_80_53, e_80_56, e_80_62, e_80_65, e_80_66, zPa_some, zPn_some, zRK_some, zRK_none, zCk_t, zis_ob, zget_set_eq, zget_set_ne, zAld_10, zAld_11, zAst_10, zAst_11, zAlen_10, zAlen_11, zbd_t, zbd_f, zb_t, zb_f, zset_set, s_one0, s_one1, zis_so]
  | succ n ih =>
    intro a r t ha h0 hr ht hg d K
    have hL := s_isLand hM hF
    have hH := s_heightAt hM hG
    have hg2 := rG (r * 24 + a) (by omega) (by omega)
    have e : a % 24 = a := by omega
    have e2 : (r * 24 + a) / 24 = r := by omega
    rw [zfor_s]
    cases hf : F (r * 24 + a) with
    | true =>
      rw [show f_top F2 F G (r * 24 + a) t = t by simp [f_top, hf]]
      simp (disch := omega) only [zen_80, e_80_0, e_80_1, e_80_2, e_80_3, e_80_4, e_80_5, e_80_7t, e_80_7f, e_80_10, e_80_11, e_80_12, e_80_15t, e_80_15f, e_80_18, e_80_21, e_80_22, e_80_24, e_80_26, e_80_28t, e_80_28f, e_80_31, e_80_32, e_80_33, e_80_35, e_80_38t, e_80_38f, e_80_41, e_80_42, e_80_43, e_80_44, e_80_46, e_80_49, e_80_52, e_80_53, e_80_56, e_80_62, e_80_65, e_80_66, zPa_some, zPn_some, zRK_some, zRK_none, zCk_t, zis_ob, zget_set_eq, zget_set_ne, zAld_10, zAld_11, zAst_10, zAst_11, zAlen_10, zAlen_11, zbd_t, zbd_f, zb_t, zb_f, zset_set, s_one0, s_one1, zis_so, hM, hL, hH, e, hf, Bool.not_true]
      exact ih _ _ _ (by omega) (by omega) hr ht hg d K
    | false =>
      rw [show f_top F2 F G (r * 24 + a) t = max t (G (r * 24 + a)) by simp [f_top, hf, e2, hg]]
      simp (disch := omega) only [zen_80, e_80_0, e_80_1, e_80_2, e_80_3, e_80_4, e_80_5, e_80_7t, e_80_7f, e_80_10, e_80_11, e_80_12, e_80_15t, e_80_15f, e_80_18, e_80_21, e_80_22, e_80_24, e_80_26, e_80_28t, e_80_28f, e_80_31, e_80_32, e_80_33, e_80_35, e_80_38t, e_80_38f, e_80_41, e_80_42, e_80_43, e_80_44, e_80_46, e_80_49, e_80_52, e_80_53, e_80_56, e_80_62, e_80_65, e_80_66, zPa_some, zPn_some, zRK_some, zRK_none, zCk_t, zis_ob, zget_set_eq, zget_set_ne, zAld_10, zAld_11, zAst_10, zAst_11, zAlen_10, zAlen_11, zbd_t, zbd_f, zb_t, zb_f, zset_set, s_one0, s_one1, zis_so, hM, hL, hH, e, hf, Bool.not_false, s_max]
      exact ih _ _ _ (by omega) (by omega) hr (by omega) hg d K
theorem f_top_rng (rG : ∀ j, 0 ≤ j → j < 192 → 0 ≤ G j ∧ G j ≤ 60) {n : Nat} {i t : Int} (hi : 0 ≤ i ∧ i + n ≤ 192) (ht : -1 ≤ t ∧ t ≤ 60) : t ≤ zfor (f_top F2 F G) n i t ∧ zfor (f_top F2 F G) n i t ≤ 60 := by
  refine zfor_inv (fun z => t ≤ z ∧ z ≤ 60) n i t ⟨Int.le_refl _, ht.2⟩ (fun j z h1 h2 h3 => ?_)
  have := rG j (by omega) (by omega)
  unfold f_top
  split <;> omega
theorem l_80b (hM : zget M h = some (zSo fu cr he re nx)) (hF : zget M fu = some (zAb 192 F)) (hG : zget M he = some (zA 10 192 G)) (rG : ∀ j, 0 ≤ j → j < 192 → 0 ≤ G j ∧ G j ≤ 60) (hM2 : zget M h2 = some (zSo fu2 cr2 he2 re2 nx2)) (hF2 : zget M fu2 = some (zAb 192 F2)) : ∀ (n : Nat) (r t : Int) (u4 : Option Value), r + n = 8 → 0 ≤ r → 0 ≤ t ∧ t ≤ 60 → ∀ (d : Nat) (K : zK), Ev (d + 5) 80 7 [some (.ref h), some (.ref h2), some (.int (zi t)), some (.int (zi r)), u4] [.int (zi 8), .int (zi r)] M K = K (some (.int (zi (zfor (f_top F2 F G) (n * 24) (r * 24) t)))) M := by
  intro n
  induction n with
  | zero =>
    intro r t u4 hr h0 ht d K
    rw [Nat.zero_mul, zfor_0]
    simp (disch := omega) only [zen_80, e_80_0, e_80_1, e_80_2, e_80_3, e_80_4, e_80_5, e_80_7t, e_80_7f, e_80_10, e_80_11, e_80_12, e_80_15t, e_80_15f, e_80_18, e_80_21, e_80_22, e_80_24, e_80_26, e_80_28t, e_80_28f, e_80_31, e_80_32, e_80_33, e_80_35, e_80_38t, e_80_38f, e_80_41, e_80_42, e_80_43, e_80_44, e_80_46, e_80_49, e_80_52, e_80_53, e_80_56, e_80_59, e_80_62, e_80_65, e_80_66, zPa_some, zPn_some, zRK_some, zRK_none, zCk_t, zis_ob, zget_set_eq, zget_set_ne, zAld_10, zAld_11, zAst_10, zAst_11, zAlen_10, zAlen_11, zbd_t, zbd_f, zb_t, zb_f, zset_set, s_one0, s_one1, zis_so]
  | succ n ih =>
    intro r t u4 hr h0 ht d K
    have hg := s_grd hM2 hF2
    rw [show (n + 1) * 24 = 24 + n * 24 by omega, zfor_app, show r * 24 + (24 : Nat) = (r + 1) * 24 by omega]
    cases hc : grd F2 r with
    | true =>
      have rg := f_top_rng (F2 := F2) (F := F) rG (n := 24) (i := r * 24) (t := t) (by omega) (by omega)
      simp (disch := omega) only [zen_80, e_80_0, e_80_1, e_80_2, e_80_3, e_80_4, e_80_5, e_80_7t, e_80_7f, e_80_10, e_80_11, e_80_12, e_80_15t, e_80_15f, e_80_18, e_80_21, e_80_22, e_80_24, e_80_26, e_80_31, e_80_32, e_80_33, e_80_35, e_80_38t, e_80_38f, e_80_41, e_80_42, e_80_43, e_80_44, e_80_46, e_80_49, e_80_52, e_80_53, e_80_56, e_80_59, e_80_62, e_80_65, e_80_66, zPa_some, zPn_some, zRK_some, zRK_none, zCk_t, zis_ob, zget_set_eq, zget_set_ne, zAld_10, zAld_11, zAst_10, zAst_11, zAlen_10, zAlen_11, zbd_t, zbd_f, zb_t, zb_f, zset_set, s_one0, s_one1, zis_so, hM2, hg, hc]
      rw [l_80a (h2 := h2) (F2 := F2) hM hF hG rG 24 0 r t (by omega) (by omega) (by omega) ht hc (d + 1), zfor_shift (f := f_top F2 F G) (r * 24), Int.add_zero]
      simp (disch := omega) only [zen_80, e_80_0, e_80_1, e_80_2, e_80_3, e_80_4, e_80_5, e_80_7t, e_80_7f, e_80_10, e_80_11, e_80_12, e_80_15t, e_80_15f, e_80_18, e_80_21, e_80_22, e_80_24, e_80_26, e_80_31, e_80_32, e_80_33, e_80_35, e_80_38t, e_80_38f, e_80_41, e_80_42, e_80_43, e_80_44, e_80_46, e_80_49, e_80_52, e_80_53, e_80_56, e_80_59, e_80_62, e_80_65, e_80_66, zPa_some, zPn_some, zRK_some, zRK_none, zCk_t, zis_ob, zget_set_eq, zget_set_ne, zAld_10, zAld_11, zAst_10, zAst_11, zAlen_10, zAlen_11, zbd_t, zbd_f, zb_t, zb_f, zset_set, s_one0, s_one1, zis_so]
      exact ih _ _ _ (by omega) (by omega) (by omega) d K
    | false =>
      have e : zfor (f_top F2 F G) 24 (r * 24) t = t := by
        refine zfor_inv (fun z => z = t) 24 _ t rfl (fun j z h1 h2 h3 => ?_)
        rw [h3]
        unfold f_top
        rw [show j / 24 = r by omega, hc]
        simp
      rw [e]
      simp (disch := omega) only [zen_80, e_80_0, e_80_1, e_80_2, e_80_3, e_80_4, e_80_5, e_80_7t, e_80_7f, e_80_10, e_80_11, e_80_12, e_80_15t, e_80_15f, e_80_18, e_80_21, e_80_22, e_80_24, e_80_26, e_80_31, e_80_32, e_80_33, e_80_35, e_80_38t, e_80_38f, e_80_41, e_80_42, e_80_43, e_80_44, e_80_46, e_80_49, e_80_52, e_80_53, e_80_56, e_80_59, e_80_62, e_80_65, e_80_66, zPa_some, zPn_some, zRK_some, zRK_none, zCk_t, zis_ob, zget_set_eq, zget_set_ne, zAld_10, zAld_11, zAst_10, zAst_11, zAlen_10, zAlen_11, zbd_t, zbd_f, zb_t, zb_f, zset_set, s_one0, s_one1, zis_so, hM2, hg, hc]
      exact ih _ _ _ (by omega) (by omega) ht d K
theorem s_highest (hM : zget M h = some (zSo fu cr he re nx)) (hF : zget M fu = some (zAb 192 F)) (hG : zget M he = some (zA 10 192 G)) (rG : ∀ j, 0 ≤ j → j < 192 → 0 ≤ G j ∧ G j ≤ 60) (hM2 : zget M h2 = some (zSo fu2 cr2 he2 re2 nx2)) (hF2 : zget M fu2 = some (zAb 192 F2)) : ∀ (d : Nat) (K : zK), zC (d + 6) 80 [.ref h, .ref h2] M K = K (some (.int (zi (zfor (f_top F2 F G) 192 0 0)))) M := by
  intro d K
  simp (disch := omega) only [zen_80, e_80_0, e_80_1, e_80_2, e_80_3, e_80_4, e_80_5, e_80_10, e_80_11, e_80_12, e_80_15t, e_80_15f, e_80_18, e_80_21, e_80_22, e_80_24, e_80_26, e_80_28t, e_80_28f, e_80_31, e_80_32, e_80_33, e_80_35, e_80_38t, e_80_38f, e_80_41, e_80_42, e_80_43, e_80_44, e_80_46, e_80_49, e_80_52, e_80_53, e_80_56, e_80_59, e_80_62, e_80_65, e_80_66, zPa_some, zPn_some, zRK_some, zRK_none, zCk_t, zis_ob, zget_set_eq, zget_set_ne, zAld_10, zAld_11, zAst_10, zAst_11, zAlen_10, zAlen_11, zbd_t, zbd_f, zb_t, zb_f, zset_set, s_one0, s_one1, zis_so]
  exact l_80b hM hF hG rG hM2 hF2 8 0 0 none (by omega) (by omega) (by omega) d K
end WEAR
