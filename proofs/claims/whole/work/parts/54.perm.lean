/-! the orders, one after another -/
def pm : Nat → Int → List (List Int)
  | 0, _ => [[]]
  | n + 1, S => if S = 0 then [[]] else (mlS 6 0).flatMap (fun m => if bt S m = true then (pm n (rs S m)).map (fun L => m :: L) else [])
def lst (L : List Int) (j : Int) : Int := L.getD j.toNat 0
def fiN : Nat → (Int → Int) → Int → Int
  | 0, _, i => i
  | n + 1, g, i => if 0 ≤ i then (if g (i + 1) < g i then fiN n g (i - 1) else i) else i
def fjN : Nat → (Int → Int) → Int → Int → Int
  | 0, _, _, j => j
  | n + 1, g, p, j => if 0 ≤ j then (if g j < p then fjN n g p (j - 1) else j) else j
def swN (g : Int → Int) (i j : Int) : Int → Int := zu (zu g i (g j)) j (g i)
def rvN : Nat → (Int → Int) → Int → Int → Int → Int
  | 0, g, _, _ => g
  | n + 1, g, a, b => if a < b then rvN n (swN g a b) (a + 1) (b - 1) else g
def nxI (k : Int) (g : Int → Int) : Int := fiN 6 g (k - 2)
def nxR (k : Int) (g : Int → Int) : Int → Int := rvN 6 (swN g (nxI k g) (fjN 6 g (g (nxI k g)) (k - 1))) (nxI k g + 1) (k - 1)
def nxL (L : List Int) : Option (List Int) := if nxI L.length (lst L) < 0 then none else some ((mlS L.length 0).map (nxR L.length (lst L)))
def chN : List (List Int) → Bool
  | [] => true
  | L :: t => (match t with | [] => decide (nxL L = none) | L' :: _ => decide (nxL L = some L')) && chN t
def ascS (S : Int) : List Int := (mlS 6 0).filter (fun m => bt S m)
def chS (S : Int) : Bool := chN (pm 6 S) && decide ((pm 6 S).head? = some (ascS S))
theorem chS_all : ∀ S : Fin 64, chS (S : Nat) = true := by decide +kernel
