/-! what holds between the class's cells (0 .. 42) and the reference's (43 .. 76) between two calls -/
def persC (k j : Nat) : Bool := match k with
  | 0 => j == 1
  | 1 => true | 4 => true | 5 => true | 7 => true | 8 => true | 9 => true | 11 => true | 12 => true | 13 => true | 14 => true | 16 => true | 17 => true | 18 => true
  | 20 => true | 21 => true | 22 => true | 23 => true | 37 => true | 38 => true | 39 => true | 40 => true | 42 => true
  | 6 => j == 3 | 10 => j == 4 | 15 => j == 3 | 19 => j == 4 || j == 5 || j == 6 | 36 => j == 4 | 41 => j == 3 || j == 4
  | 1001 => true | 1002 => true | 1003 => true
  | _ => false
def persM (k j : Nat) : Bool := match k with
  | 43 => j == 1 || j == 6 || j == 10 || j == 16 || j == 18 || j == 21 || j == 39 || j == 52 || j == 53
  | 44 => true | 45 => true | 46 => true | 47 => true | 48 => true | 49 => true | 50 => true | 51 => true | 52 => true | 53 => true | 54 => true | 55 => true | 56 => true | 57 => true
  | 69 => true | 70 => true | 71 => true | 72 => true | 76 => true
  | _ => false
theorem up_off {h : HP} {k j a b : Nat} {x : Int} (e : ¬ (a = k ∧ b = j)) : up h k j x a b = h a b := by simp only [up, if_neg e]
def CF (h h' : HP) : Prop := ∀ k, 43 ≤ k → h' k = h k
def MF (h h' : HP) : Prop := ∀ k, k < 43 ∨ 77 ≤ k → h' k = h k
def CG (g h : HP) : Prop := ∀ k j, persC k j = true → h k j = g k j
def MG (g h : HP) : Prop := ∀ k j, persM k j = true → h k j = g k j
theorem CF.rf {h : HP} : CF h h := fun _ _ => rfl
theorem MF.rf {h : HP} : MF h h := fun _ _ => rfl
theorem CF.tr {a b c : HP} (h1 : CF a b) (h2 : CF b c) : CF a c := fun k hk => (h2 k hk).trans (h1 k hk)
theorem MF.tr {a b c : HP} (h1 : MF a b) (h2 : MF b c) : MF a c := fun k hk => (h2 k hk).trans (h1 k hk)
theorem CF.up {h h' : HP} (h1 : CF h h') {k j : Nat} {x : Int} (hk : k < 43) : CF h (up h' k j x) := fun a ha => by rw [up_ne (by omega)]; exact h1 a ha
theorem MF.up {h h' : HP} (h1 : MF h h') {k j : Nat} {x : Int} (hk : 43 ≤ k ∧ k < 77) : MF h (up h' k j x) := fun a ha => by rw [up_ne (by omega)]; exact h1 a ha
theorem CG.up {g h : HP} (h1 : CG g h) {k j : Nat} {x : Int} (hk : persC k j = false) : CG g (up h k j x) := fun a b hab => by
  by_cases e : a = k ∧ b = j
  · obtain ⟨rfl, rfl⟩ := e
    rw [hk] at hab
    cases hab
  · rw [up_off e]
    exact h1 a b hab
theorem MG.up {g h : HP} (h1 : MG g h) {k j : Nat} {x : Int} (hk : persM k j = false) : MG g (up h k j x) := fun a b hab => by
  by_cases e : a = k ∧ b = j
  · obtain ⟨rfl, rfl⟩ := e
    rw [hk] at hab
    cases hab
  · rw [up_off e]
    exact h1 a b hab
theorem persC_lt {k j : Nat} (hp : persC k j = true) : k < 43 ∨ 1001 ≤ k := by
  unfold persC at hp
  split at hp <;> first | omega | cases hp
theorem persM_in {k j : Nat} (hp : persM k j = true) : 43 ≤ k ∧ k < 77 := by
  unfold persM at hp
  split at hp <;> first | omega | cases hp
theorem CG.mf {g h h' : HP} (h1 : CG g h) (h2 : MF h h') : CG g h' := fun k j hp => by
  rw [h2 k (by have := persC_lt hp; omega)]
  exact h1 k j hp
theorem MG.cf {g h h' : HP} (h1 : MG g h) (h2 : CF h h') : MG g h' := fun k j hp => by
  rw [h2 k (by have := persM_in hp; omega)]
  exact h1 k j hp
-- the parts of the state
def ITape (g : HP) : Prop := 0 ≤ g 0 1 ∧ g 0 1 ≤ 80 ∧ g 43 16 = g 0 1 ∧ ∀ j : Nat, (j : Int) < g 0 1 → g 56 j = g 1 j ∧ 0 ≤ g 1 j ∧ g 1 j ≤ 255
def IWords (g : HP) : Prop := 0 ≤ g 10 4 ∧ g 10 4 ≤ 60 ∧ g 43 1 = g 10 4 ∧ (∀ j : Nat, (j : Int) < g 10 4 → g 44 j = g 11 j ∧ 0 ≤ g 11 j ∧ g 11 j ≤ 3 ∧ g 13 j = (if g 11 j = 1 then g 45 j else 1)) ∧
  ∀ j : Nat, j < 60 → g 47 j = g 12 j ∧ g 46 j = g 14 j ∧ (g 14 j = 0 ∨ g 14 j = 1) ∧ (g 45 j = 0 ∨ g 45 j = 1) ∧ (g 13 j = 0 ∨ g 13 j = 1) ∧ (g 10 4 ≤ (j : Int) → g 45 j = 0)
/-- name k is spelled as the row, which has l letters -/
def mt (g : HP) (r : Nat → Int) (l : Int) (k : Nat) : Prop := g 8 k = l ∧ ∀ i : Nat, (i : Int) < l → g 7 (12 * k + i) = r i
def INames (g : HP) : Prop := 0 ≤ g 6 3 ∧ g 6 3 ≤ 90 ∧ g 43 6 = g 6 3 ∧ (∀ k : Nat, (k : Int) < g 6 3 → g 49 k = g 8 k ∧ 1 ≤ g 8 k ∧ g 8 k ≤ 12 ∧ g 50 k = g 9 k ∧ 0 ≤ g 9 k ∧ g 9 k < g 10 4 ∧ ∀ i : Nat, (i : Int) < g 8 k → g 48 (12 * k + i) = g 7 (12 * k + i) + 97 ∧ 0 ≤ g 7 (12 * k + i) ∧ g 7 (12 * k + i) ≤ 25) ∧
  (∀ k k' : Nat, (k : Int) < g 6 3 → (k' : Int) < g 6 3 → mt g (fun i => g 7 (12 * k' + i)) (g 8 k') k → k = k') ∧ ∀ w : Int, 0 ≤ w → w < g 10 4 → ∃ k : Nat, (k : Int) < g 6 3 ∧ g 9 k = w
def okTok (g : HP) (t : Int) : Prop := (-9 ≤ t ∧ t ≤ -1) ∨ (0 ≤ t ∧ t < g 10 4 ∧ g 11 t.toNat = 2)
def IRules (g : HP) : Prop := 0 ≤ g 15 3 ∧ g 15 3 ≤ 40 ∧ g 43 10 = g 15 3 ∧ (∀ k : Nat, (k : Int) < g 15 3 → g 51 k = g 16 k ∧ 0 ≤ g 16 k ∧ g 16 k < g 10 4 ∧ g 11 (g 16 k).toNat = 0 ∧ ∀ i : Nat, (i : Int) < g 17 k → g 52 (4 * k + i) = g 18 (4 * k + i) ∧ okTok g (g 18 (4 * k + i))) ∧ ∀ k : Nat, k < 40 → g 53 k = g 17 k ∧ 0 ≤ g 17 k ∧ g 17 k ≤ 4 ∧ (g 15 3 ≤ (k : Int) → g 17 k = 0)
def setLo (j : Nat) : Int := match j with | 5 => 0 | 6 => 0 | 7 => 0 | _ => 1
def setHi (j : Nat) : Int := match j with | 5 => 60 | 6 => 1 | 7 => 1 | _ => 9
def ISett (g : HP) : Prop := (∀ j : Nat, j < 9 → g 54 j = g 4 j ∧ setLo j ≤ g 4 j ∧ g 4 j ≤ setHi j) ∧ (∀ j : Nat, j < 676 → g 55 j = g 5 j ∧ (g 5 j = 0 ∨ g 5 j = 1)) ∧ (∀ j : Nat, j < 9 → g 1002 j = setLo j ∧ g 1003 j = setHi j)
/-- what spells typed word k, in letters 0 .. 25 -/
def tw (g : HP) (k : Nat) : Nat → Int := fun i => g 21 ((g 22 k).toNat + i)
def known (g : HP) (r : Nat → Int) (l : Int) : Prop := ∃ k : Nat, (k : Int) < g 6 3 ∧ mt g r l k
def IRuns (g : HP) (m tz : Int) (b st ln : Nat → Int) : Prop := 0 ≤ tz ∧ tz ≤ 10 ∧ (∀ k : Nat, (k : Int) < tz → 0 ≤ st k ∧ 0 < ln k ∧ st k + ln k ≤ m ∧ ∀ i : Nat, st k ≤ i → (i : Int) < st k + ln k → ¬ lOf (b i) = -1) ∧ (∀ i : Nat, (i : Int) < m → ¬ lOf (b i) = -1 → ∃ k : Nat, (k : Int) < tz ∧ st k ≤ i ∧ (i : Int) < st k + ln k) ∧ ∀ k : Nat, (k : Int) + 1 < tz → st k + ln k < st (k + 1)
/-- how many runs begin before m -/
def rc (f : Nat → Int) : Nat → Int
  | 0 => 0
  | m + 1 => rc f m + (if ¬ lOf (f m) = -1 ∧ (m = 0 ∨ lOf (f (m - 1)) = -1) then 1 else 0)
def ILine (g : HP) : Prop := 0 ≤ g 19 4 ∧ g 19 4 ≤ 92 ∧ g 43 18 = g 19 4 ∧ g 43 21 = g 19 6 ∧ (∀ j : Nat, (j : Int) < g 19 4 → g 57 j = g 20 j ∧ 0 ≤ g 20 j ∧ g 20 j ≤ 255 ∧ g 21 j = lOf (g 20 j)) ∧ IRuns g (g 19 4) (g 19 5) (g 20) (g 22) (g 23) ∧ g 19 5 = rc (g 20) (g 19 4).toNat ∧ (80 < g 19 4 → ∀ k : Nat, (k : Int) < g 19 5 → known g (tw g k) (g 23 k))
def ILog (g : HP) : Prop := 0 ≤ g 36 4 ∧ g 36 4 ≤ 40 ∧ g 43 39 = g 36 4 ∧ ∀ k : Nat, (k : Int) < g 36 4 → g 70 k = g 38 k ∧ 1 ≤ g 38 k ∧ g 38 k ≤ 12 ∧ g 71 k = g 39 k ∧ 0 ≤ g 39 k ∧ g 39 k < g 10 4 ∧ g 72 k = g 40 k ∧ ∀ i : Nat, (i : Int) < g 38 k → g 69 (12 * k + i) = g 37 (12 * k + i) + 97 ∧ 0 ≤ g 37 (12 * k + i) ∧ g 37 (12 * k + i) ≤ 25
def ICell (g : HP) : Prop := (g 41 3 = -1 ∧ g 41 4 = -1 ∧ g 43 52 = -1) ∨ (0 ≤ g 41 3 ∧ g 41 3 ≤ 80 ∧ 0 ≤ g 41 4 ∧ g 41 4 ≤ 12 ∧ g 43 52 = g 41 3 ∧ g 43 53 = g 41 4 ∧ ∀ i j : Nat, (i : Int) ≤ g 41 3 → (j : Int) ≤ g 41 4 → g 76 (13 * i + j) = g 42 (13 * i + j))
def II (g : HP) : Prop := okH g ∧ ITape g ∧ IWords g ∧ INames g ∧ IRules g ∧ ISett g ∧ ILine g ∧ ILog g ∧ ICell g
