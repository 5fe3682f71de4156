/-! the states of the class and of the reference, in pictures -/
def zst (b : Nat) (k : Int) : Nat := b + 22 + 6 * k.toNat
def XO (b : Nat) (v : Nat → Int) (M : zM) : Prop := zget M b = some (zOb 8 [.ref (b + 1), .ref (b + 46), .ref (b + 2), .ref (b + 3), .ref (b + 4), .ref (b + 9), .ref (b + 12), .ref (b + 17), .int (zi (v 4)), .int (zi (v 5)), .int (zi (v 16)), .int (zi (v 32)), .int (zi (v 17))]) ∧ zget M (b + 1) = some (zAr 4 (fun j => if 0 ≤ j ∧ j < 4 then some (zst b j) else none)) ∧ zget M (b + 46) = some (zOb 0 [.ref (zst b (v 4)), .ref (zst b (v 5))])
def XS1 (h : Nat) (F C : Int → Bool) (G : Int → Int) (M : zM) : Prop := zget M h = some (zSo (h + 1) (h + 2) (h + 3) (h + 4) (h + 5)) ∧ zget M (h + 1) = some (zAb 192 F) ∧ zget M (h + 2) = some (zAb 192 C) ∧ zget M (h + 3) = some (zA 10 192 G) ∧ (∃ A, zget M (h + 4) = some (zAb 24 A)) ∧ (∃ A, zget M (h + 5) = some (zAb 24 A))
def XS (b : Nat) (F C : Int → Bool) (G : Int → Int) (M : zM) : Prop := ∀ k : Int, 0 ≤ k → k ≤ 3 → XS1 (zst b k) (sh k F) (sh k C) (sh k G) M
def XH (b : Nat) (v : Nat → Int) (M : zM) : Prop := zget M (b + 2) = some (zOb 2 [.int (zi (v 6)), .int (zi (v 7)), .int (zi (v 8)), .int (zi (v 9))])
def XG (b : Nat) (M : zM) : Prop := ∃ u : Nat → Int, zget M (b + 3) = some (zOb 1 [.int (zi (u 0)), .int (zi (u 1)), .int (zi (u 2)), .int (zi (u 3)), .int (zi (u 4)), .int (zi (u 5)), .int (zi (u 6))])
def XT (b : Nat) (v : Nat → Int) (R : Nat → Int → Int) (M : zM) : Prop := zget M (b + 4) = some (zOb 7 [.ref (b + 5), .ref (b + 6), .ref (b + 7), .ref (b + 8), .int (zi (v 18))]) ∧ zget M (b + 5) = some (zA 10 12 (R 5)) ∧ zget M (b + 6) = some (zA 10 12 (R 6)) ∧ zget M (b + 7) = some (zA 10 12 (R 7)) ∧ ∃ u : Nat → Int, zget M (b + 8) = some (zOb 2 [.int (zi (u 0)), .int (zi (u 1)), .int (zi (u 2)), .int (zi (u 3))])
def XR (b : Nat) (v : Nat → Int) (R : Nat → Int → Int) (M : zM) : Prop := zget M (b + 9) = some (zOb 3 [.ref (b + 10), .ref (b + 11), .int (zi (v 23))]) ∧ zget M (b + 10) = some (zA 10 24 (R 8)) ∧ zget M (b + 11) = some (zA 10 24 (R 9))
def zdu (D : Int → Bool) (g : Int → Int) : Int → Int := fun m => if D m = true then g m else -1
def XM (b : Nat) (v : Nat → Int) (R : Nat → Int → Int) (D : Int → Bool) (M : zM) : Prop := zget M (b + 12) = some (zOb 4 [.ref (b + 13), .ref (b + 14), .ref (b + 15), .ref (b + 16), .int (zi (v 31))]) ∧ zget M (b + 13) = some (zA 10 6 (zdu D (R 11))) ∧ zget M (b + 14) = some (zA 10 6 (zdu D (R 12))) ∧ zget M (b + 15) = some (zA 10 6 (zdu D (R 13))) ∧ zget M (b + 16) = some (zA 10 36 (R 14))
def XP (b : Nat) (M : zM) : Prop := ∃ (l : Int) (e s o t : Int → Int), zget M (b + 17) = some (zOb 5 [.ref (b + 18), .ref (b + 19), .ref (b + 20), .ref (b + 21), .int (zi l)]) ∧ zget M (b + 18) = some (zA 10 384 e) ∧ zget M (b + 19) = some (zA 10 64 s) ∧ zget M (b + 20) = some (zA 10 6 o) ∧ zget M (b + 21) = some (zA 10 6 t)
def XI (b : Nat) (v : Nat → Int) (F C : Int → Bool) (G : Int → Int) (R : Nat → Int → Int) (D : Int → Bool) (M : zM) : Prop := XO b v M ∧ XS b F C G M ∧ XH b v M ∧ XG b M ∧ XT b v R M ∧ XR b v R M ∧ XM b v R D M ∧ XP b M
def zAg (w v : Nat → Int) : Prop := ∀ j, (j ≤ 9 ∨ j = 16 ∨ j = 17 ∨ j = 18 ∨ j = 23 ∨ j = 31 ∨ j = 32) → w j = v j
def MI (c : Nat) (v : Nat → Int) (F C : Int → Bool) (G : Int → Int) (R : Nat → Int → Int) (D : Int → Bool) (M : zM) : Prop := ∃ w : Nat → Int, zAg w v ∧ zget M c = some (zMo c w) ∧ zget M (c + 1) = some (zAb 768 F) ∧ zget M (c + 2) = some (zA 10 768 G) ∧ zget M (c + 3) = some (zAb 768 C) ∧ (∃ A, zget M (c + 4) = some (zAb 192 A)) ∧ zget M (c + 5) = some (zA 10 12 (R 5)) ∧ zget M (c + 6) = some (zA 10 12 (R 6)) ∧ zget M (c + 7) = some (zA 10 12 (R 7)) ∧ zget M (c + 8) = some (zA 10 24 (R 8)) ∧ zget M (c + 9) = some (zA 10 24 (R 9)) ∧ zget M (c + 10) = some (zAb 6 D) ∧ zget M (c + 11) = some (zA 10 6 (R 11)) ∧ zget M (c + 12) = some (zA 10 6 (R 12)) ∧ zget M (c + 13) = some (zA 10 6 (R 13)) ∧ zget M (c + 14) = some (zA 10 36 (R 14)) ∧ (∃ A, zget M (c + 15) = some (zA 10 6 A)) ∧ (∃ A, zget M (c + 16) = some (zA 10 6 A)) ∧ (∃ A, zget M (c + 17) = some (zA 10 6 A)) ∧ (∃ A, zget M (c + 18) = some (zA 10 6 A))
/-- what every state keeps -/
def RV (v : Nat → Int) : Prop := (0 ≤ v 4 ∧ v 4 ≤ 3 ∧ 0 ≤ v 5 ∧ v 5 ≤ 3 ∧ v 4 ≠ v 5) ∧ (1 ≤ v 6 ∧ v 6 ≤ 60 ∧ 0 ≤ v 7 ∧ v 7 ≤ 2 ∧ 0 ≤ v 8 ∧ v 8 ≤ 20 ∧ 0 ≤ v 9 ∧ v 9 ≤ 23) ∧ (0 ≤ v 16 ∧ v 16 ≤ 40 ∧ -2147483648 ≤ v 17 ∧ v 17 < 2147483648 ∧ 0 ≤ v 18 ∧ v 18 ≤ 12 ∧ 0 ≤ v 23 ∧ v 23 ≤ 24) ∧ (1 ≤ v 31 ∧ v 31 ≤ 3 ∧ 0 ≤ v 32 ∧ v 32 ≤ 20)
def RGh (G : Int → Int) : Prop := ∀ j, 0 ≤ j → j < 768 → 0 ≤ G j ∧ G j ≤ 60
def RT (R : Nat → Int → Int) : Prop := ∀ j, 0 ≤ j → j < 12 → 0 ≤ R 5 j ∧ R 5 j ≤ 23 ∧ 0 ≤ R 6 j ∧ R 6 j ≤ 23 ∧ 0 ≤ R 7 j ∧ R 7 j ≤ 100
def RR (R : Nat → Int → Int) : Prop := ∀ j, 0 ≤ j → j < 24 → -1 ≤ R 8 j ∧ R 8 j ≤ 1000 ∧ -1 ≤ R 9 j ∧ R 9 j ≤ 1000
def RM (R : Nat → Int → Int) (D : Int → Bool) : Prop := (∀ j, 0 ≤ j → j < 6 → 0 ≤ R 11 j ∧ R 11 j ≤ 30 ∧ 0 ≤ R 12 j ∧ R 12 j ≤ 30 ∧ 0 ≤ R 13 j ∧ R 13 j ≤ 3 ∧ (D j = true → 1 ≤ R 13 j)) ∧ (∀ j, 0 ≤ j → j < 36 → 0 ≤ R 14 j ∧ R 14 j ≤ 5)
def RI (v : Nat → Int) (G : Int → Int) (R : Nat → Int → Int) (D : Int → Bool) : Prop := RV v ∧ RGh G ∧ RT R ∧ RR R ∧ RM R D
/-- all but the cells from lo, n of them, is as it was -/
def zFr (lo n : Nat) (M M' : zM) : Prop := (∀ a, a < lo ∨ lo + n ≤ a → zget M' a = zget M a) ∧ M'.1 = M.1 ∧ M'.2.1 = M.2.1 ∧ M'.2.2.1 = M.2.2.1
theorem zFr_refl {lo n : Nat} {M : zM} : zFr lo n M M := ⟨fun _ _ => rfl, rfl, rfl, rfl⟩
theorem zFr_set {lo n a : Nat} {M : zM} {x : zE} (h : lo ≤ a ∧ a < lo + n) : zFr lo n M (zset M a x) := ⟨fun _ _ => zget_set_ne (by omega), rfl, rfl, rfl⟩
theorem zFr_trans {lo n : Nat} {M M' M'' : zM} (h : zFr lo n M M') (h' : zFr lo n M' M'') : zFr lo n M M'' := ⟨fun a q => (h'.1 a q).trans (h.1 a q), h'.2.1.trans h.2.1, h'.2.2.1.trans h.2.2.1, h'.2.2.2.trans h.2.2.2⟩
theorem zFr_mono {lo n lo' n' : Nat} {M M' : zM} (h : zFr lo n M M') (q : lo' ≤ lo ∧ lo + n ≤ lo' + n') : zFr lo' n' M M' := ⟨fun a p => h.1 a (by omega), h.2⟩
theorem zFr_get {lo n a : Nat} {M M' : zM} {x : Option zE} (h : zFr lo n M M') (q : zget M a = x) (p : a < lo ∨ lo + n ≤ a) : zget M' a = x := (h.1 a p).trans q
section FR
variable {b c lo n : Nat} {v : Nat → Int} {F C D : Int → Bool} {G : Int → Int} {R : Nat → Int → Int} {M M' : zM}
theorem XO_fr (h : XO b v M) (f : zFr lo n M M') (q : (b + 1 < lo ∧ lo + n ≤ b + 46) ∨ lo + n ≤ b ∨ b + 46 < lo) : XO b v M' := ⟨zFr_get f h.1 (by omega), zFr_get f h.2.1 (by omega), zFr_get f h.2.2 (by omega)⟩
theorem XS1_fr {h : Nat} (x : XS1 h F C G M) (f : zFr lo n M M') (q : lo + n ≤ h ∨ h + 6 ≤ lo) : XS1 h F C G M' := by
  obtain ⟨h1, h2, h3, h4, ⟨A, h5⟩, B, h6⟩ := x
  exact ⟨zFr_get f h1 (by omega), zFr_get f h2 (by omega), zFr_get f h3 (by omega), zFr_get f h4 (by omega), ⟨A, zFr_get f h5 (by omega)⟩, B, zFr_get f h6 (by omega)⟩
theorem XS_fr (x : XS b F C G M) (f : zFr lo n M M') (q : lo + n ≤ b + 22 ∨ b + 46 ≤ lo) : XS b F C G M' := fun k h0 h1 => XS1_fr (x k h0 h1) f (by unfold zst; omega)
theorem XH_fr (x : XH b v M) (f : zFr lo n M M') (q : lo + n ≤ b + 2 ∨ b + 3 ≤ lo) : XH b v M' := zFr_get f x (by omega)
theorem XG_fr (x : XG b M) (f : zFr lo n M M') (q : lo + n ≤ b + 3 ∨ b + 4 ≤ lo) : XG b M' := by
  obtain ⟨u, h⟩ := x
  exact ⟨u, zFr_get f h (by omega)⟩
theorem XT_fr (x : XT b v R M) (f : zFr lo n M M') (q : lo + n ≤ b + 4 ∨ b + 9 ≤ lo) : XT b v R M' := by
  obtain ⟨h1, h2, h3, h4, u, h5⟩ := x
  exact ⟨zFr_get f h1 (by omega), zFr_get f h2 (by omega), zFr_get f h3 (by omega), zFr_get f h4 (by omega), u, zFr_get f h5 (by omega)⟩
theorem XR_fr (x : XR b v R M) (f : zFr lo n M M') (q : lo + n ≤ b + 9 ∨ b + 12 ≤ lo) : XR b v R M' := by
  obtain ⟨h1, h2, h3⟩ := x
  exact ⟨zFr_get f h1 (by omega), zFr_get f h2 (by omega), zFr_get f h3 (by omega)⟩
theorem XM_fr (x : XM b v R D M) (f : zFr lo n M M') (q : lo + n ≤ b + 12 ∨ b + 17 ≤ lo) : XM b v R D M' := by
  obtain ⟨h1, h2, h3, h4, h5⟩ := x
  exact ⟨zFr_get f h1 (by omega), zFr_get f h2 (by omega), zFr_get f h3 (by omega), zFr_get f h4 (by omega), zFr_get f h5 (by omega)⟩
theorem XP_fr (x : XP b M) (f : zFr lo n M M') (q : lo + n ≤ b + 17 ∨ b + 22 ≤ lo) : XP b M' := by
  obtain ⟨l, e, s, o, t, h1, h2, h3, h4, h5⟩ := x
  exact ⟨l, e, s, o, t, zFr_get f h1 (by omega), zFr_get f h2 (by omega), zFr_get f h3 (by omega), zFr_get f h4 (by omega), zFr_get f h5 (by omega)⟩
theorem XI_fr (x : XI b v F C G R D M) (f : zFr lo n M M') (q : lo + n ≤ b ∨ b + 47 ≤ lo) : XI b v F C G R D M' := by
  obtain ⟨h1, h2, h3, h4, h5, h6, h7, h8⟩ := x
  exact ⟨XO_fr h1 f (by omega), XS_fr h2 f (by omega), XH_fr h3 f (by omega), XG_fr h4 f (by omega), XT_fr h5 f (by omega), XR_fr h6 f (by omega), XM_fr h7 f (by omega), XP_fr h8 f (by omega)⟩
theorem MI_fr (x : MI c v F C G R D M) (f : zFr lo n M M') (q : lo + n ≤ c ∨ c + 19 ≤ lo) : MI c v F C G R D M' := by
  obtain ⟨w, ha, h0, h1, h2, h3, ⟨A4, h4⟩, h5, h6, h7, h8, h9, h10, h11, h12, h13, h14, ⟨A15, h15⟩, ⟨A16, h16⟩, ⟨A17, h17⟩, A18, h18⟩ := x
  exact ⟨w, ha, zFr_get f h0 (by omega), zFr_get f h1 (by omega), zFr_get f h2 (by omega), zFr_get f h3 (by omega), ⟨A4, zFr_get f h4 (by omega)⟩, zFr_get f h5 (by omega), zFr_get f h6 (by omega), zFr_get f h7 (by omega), zFr_get f h8 (by omega), zFr_get f h9 (by omega), zFr_get f h10 (by omega), zFr_get f h11 (by omega), zFr_get f h12 (by omega), zFr_get f h13 (by omega), zFr_get f h14 (by omega), ⟨A15, zFr_get f h15 (by omega)⟩, ⟨A16, zFr_get f h16 (by omega)⟩, ⟨A17, zFr_get f h17 (by omega)⟩, A18, zFr_get f h18 (by omega)⟩
theorem zAb_ext {n : Nat} {F F' : Int → Bool} (h : ∀ j : Int, 0 ≤ j → j < n → F j = F' j) : zAb n F = zAb n F' := zA_ext (fun j h1 h2 => by rw [h j h1 h2])
theorem zAld_st {i : Int} (q : 0 ≤ i ∧ i ≤ 3) : zAld 12 (some (zAr 4 (fun j => if 0 ≤ j ∧ j < 4 then some (zst b j) else none))) (zi i) = some (.ref (zst b i)) := by
  rw [zAld_12 (by omega), if_pos (by omega)]
  rfl
theorem zis_O {x : List Value} {ci : Nat} : zis (some (zOb ci x)) ci = true := zis_ob
end FR
