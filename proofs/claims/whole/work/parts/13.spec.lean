-- ===== what the component's cells are =====
abbrev inI (z : Int) : Prop := -2147483648 ≤ z ∧ z ≤ 2147483647
def CarAt (w : AW) (c : Nat) (D : Int → Int → Int) (n mi : Int) : Prop :=
  w c = eO 0 [aR 1, aR (c + 1), aR (c + 2), aR (c + 3), aR (c + 4), aR (c + 5), aR (c + 6), aR (c + 7), aI n, aI mi] ∧ w (c + 1) = eI 7 (D 0) ∧ w (c + 2) = eI 7 (D 1) ∧ w (c + 3) = eI 7 (D 2) ∧ w (c + 4) = eI 7 (D 3) ∧ w (c + 5) = eI 7 (D 4) ∧ w (c + 6) = eI 7 (D 5) ∧ w (c + 7) = eI 4 (D 6)
def kref (i : Int) : Option Nat := some (2 + i.toNat)
def KindsAt (w : AW) : Prop := w 1 = eR 2 8 kref ∧ w 2 = eO 7 [] ∧ w 3 = eO 6 [] ∧ w 4 = eO 9 [] ∧ w 5 = eO 4 [] ∧ w 6 = eO 5 [] ∧ w 7 = eO 3 [] ∧ w 8 = eO 1 [] ∧ w 9 = eO 2 []
def CarOK (D : Int → Int → Int) (n mi : Int) : Prop :=
  (0 ≤ n ∧ n ≤ 7 ∧ 0 ≤ mi ∧ mi ≤ 9999) ∧ (∀ p, 0 ≤ p → p < 7 → (0 ≤ D 0 p ∧ D 0 p ≤ 7) ∧ (0 ≤ D 1 p ∧ D 1 p ≤ 9) ∧ (0 ≤ D 2 p ∧ D 2 p ≤ 3) ∧ (0 ≤ D 3 p ∧ D 3 p ≤ 9) ∧ (0 ≤ D 4 p ∧ D 4 p ≤ 3) ∧ (0 ≤ D 5 p ∧ D 5 p ≤ 2)) ∧ (0 ≤ D 6 0 ∧ D 6 0 ≤ 99) ∧ (0 ≤ D 6 1 ∧ D 6 1 ≤ 9) ∧ (0 ≤ D 6 2 ∧ D 6 2 ≤ 5) ∧ (0 ≤ D 6 3 ∧ D 6 3 ≤ 40)
-- ===== kinds =====
def pl (f pace : Int) : Int := if 48 ≤ pace ∧ pace ≤ 53 then f else 0
def lo (f pace : Int) : Int := if 30 ≤ pace then f else 0
def loud (k f pace cold load : Int) : Int :=
  if k = 1 then lo f pace else if k = 2 then 2 * pl f pace else if k = 3 then (if 5 ≤ cold then lo f pace else 0) else if k = 4 then max 0 (pl f pace - load) else if k = 5 then (if 0 < 2 * pl f pace ∧ pace % 2 = 0 then 2 * pl f pace + 3 else 2 * pl f pace) else if k = 6 then 0 else if k = 7 then 2 * max 0 (pl f pace - load) else pl f pace
def secs (k f : Int) : Int := if k = 1 then 6 else if k = 2 then 10 + f else if k = 3 then 12 else if k = 4 then 15 else if k = 5 then 12 + f else if k = 7 then 15 else 10
def loos (k : Int) : Int := if k = 1 ∨ k = 3 then 3 else if k = 6 then 0 else 1
def price (k f : Int) : Int := if k = 1 then 2 else if k = 2 then 3 + f else if k = 3 then 4 else if k = 4 then 9 else if k = 5 then 5 + f else if k = 6 then 4 else if k = 7 then 9 + f else 3
theorem pl_bd {f pace : Int} (h : 0 ≤ f ∧ f ≤ 9) : 0 ≤ pl f pace ∧ pl f pace ≤ 9 := by unfold pl; split <;> omega
theorem lo_bd {f pace : Int} (h : 0 ≤ f ∧ f ≤ 9) : 0 ≤ lo f pace ∧ lo f pace ≤ 9 := by unfold lo; split <;> omega
theorem loud_bd {k f pace cold load : Int} (h : 0 ≤ f ∧ f ≤ 9) (hl : 0 ≤ load) : 0 ≤ loud k f pace cold load ∧ loud k f pace cold load ≤ 21 := by
  have := pl_bd (pace := pace) h
  have := lo_bd (pace := pace) h
  unfold loud
  repeat' split
  all_goals omega
theorem secs_bd {k f : Int} (h : 0 ≤ f ∧ f ≤ 9) : 6 ≤ secs k f ∧ secs k f ≤ 21 := by
  unfold secs
  repeat' split
  all_goals omega
theorem loos_bd {k : Int} : 0 ≤ loos k ∧ loos k ≤ 3 := by
  unfold loos
  repeat' split
  all_goals omega
