-- ===== what the component's cells are =====
abbrev inI (z : Int) : Prop := -2147483648 ≤ z ∧ z ≤ 2147483647
def CarAt (w : AW) (c : Nat) (D : Int → Int → Int) (n mi : Int) : Prop :=
  w c = eO 0 [aR 1, aR (c + 1), aR (c + 2), aR (c + 3), aR (c + 4), aR (c + 5), aR (c + 6), aR (c + 7), aI n, aI mi] ∧ w (c + 1) = eI 7 (D 0) ∧ w (c + 2) = eI 7 (D 1) ∧ w (c + 3) = eI 7 (D 2) ∧ w (c + 4) = eI 7 (D 3) ∧ w (c + 5) = eI 7 (D 4) ∧ w (c + 6) = eI 7 (D 5) ∧ w (c + 7) = eI 4 (D 6)
def kref (i : Int) : Option Nat := some (2 + i.toNat)
def KindsAt (w : AW) : Prop := w 1 = eR 2 8 kref ∧ w 2 = eO 7 [] ∧ w 3 = eO 6 [] ∧ w 4 = eO 9 [] ∧ w 5 = eO 4 [] ∧ w 6 = eO 5 [] ∧ w 7 = eO 3 [] ∧ w 8 = eO 1 [] ∧ w 9 = eO 2 []
def CarOK (D : Int → Int → Int) (n mi : Int) : Prop :=
  (0 ≤ n ∧ n ≤ 7 ∧ 0 ≤ mi ∧ mi ≤ 9999) ∧ (∀ p, 0 ≤ p → p < 7 → (0 ≤ D 0 p ∧ D 0 p ≤ 7) ∧ (0 ≤ D 1 p ∧ D 1 p ≤ 9) ∧ (0 ≤ D 2 p ∧ D 2 p ≤ 3) ∧ (0 ≤ D 3 p ∧ D 3 p ≤ 9) ∧ (0 ≤ D 4 p ∧ D 4 p ≤ 3) ∧ (0 ≤ D 5 p ∧ D 5 p ≤ 2)) ∧ (0 ≤ D 6 0 ∧ D 6 0 ≤ 99) ∧ (0 ≤ D 6 1 ∧ D 6 1 ≤ 9) ∧ (0 ≤ D 6 2 ∧ D 6 2 ≤ 5) ∧ (0 ≤ D 6 3 ∧ D 6 3 ≤ 40)
-- ===== kinds =====
def pl (f pace : Int) : Int := if 48 ≤ pace ∧ pace ≤ 53 then f else 0
def lo (f pace : Int) : Int := if 30 ≤ pace then f else 0
def loud (k f pace cold load : Int) : Int :=
  if k = 1 then lo f pace else if k = 2 then 2 * pl f pace else if k = 3 then (if 5 ≤ cold then lo f pace else 0) else if k = 4 then max 0 (pl f pace - load) else if k = 5 then (if 0 < 2 * pl f pace ∧ pace % 2 = 0 then 2 * pl f pace + 3 else 2 * pl f pace) else if k = 6 then 0 else if k = 7 then 2 * max 0 (pl f pace - load) else pl f pace
def secs (k f : Int) : Int := if k = 1 then 6 else if k = 2 then 10 + f else if k = 3 then 12 else if k = 4 then 15 else if k = 5 then 12 + f else if k = 7 then 15 else 10
def loos (k : Int) : Int := if k = 1 ∨ k = 3 then 3 else if k = 6 then 0 else 1
def price (k f : Int) : Int := if k = 1 then 2 else if k = 2 then 3 + f else if k = 3 then 4 else if k = 4 then 9 else if k = 5 then 5 + f else if k = 6 then 4 else if k = 7 then 9 + f else 3
theorem pl_bd {f pace : Int} (h : 0 ≤ f ∧ f ≤ 9) : 0 ≤ pl f pace ∧ pl f pace ≤ 9 := by unfold pl; split <;> omega
theorem lo_bd {f pace : Int} (h : 0 ≤ f ∧ f ≤ 9) : 0 ≤ lo f pace ∧ lo f pace ≤ 9 := by unfold lo; split <;> omega
theorem loud_bd {k f pace cold load : Int} (h : 0 ≤ f ∧ f ≤ 9) (hl : 0 ≤ load) : 0 ≤ loud k f pace cold load ∧ loud k f pace cold load ≤ 21 := by
  have := pl_bd (pace := pace) h
  have := lo_bd (pace := pace) h
  unfold loud
  repeat' split
  all_goals omega
theorem secs_bd {k f : Int} (h : 0 ≤ f ∧ f ≤ 9) : 6 ≤ secs k f ∧ secs k f ≤ 21 := by
  unfold secs
  repeat' split
  all_goals omega
theorem loos_bd {k : Int} : 0 ≤ loos k ∧ loos k ≤ 3 := by
  unfold loos
  repeat' split
  all_goals omega
-- ===== shelves =====
def ShelfAt (w : AW) (q : Nat) (ct k f so sz : Int) (E : Int → Int) : Prop := w q = eO 8 [aI ct, aI k, aI f, aI so, aI sz, aR (q + 1)] ∧ w (q + 1) = eI 100 E
def ShelfOK (ct k f so sz : Int) (E : Int → Int) : Prop := (0 ≤ ct ∧ ct ≤ 2) ∧ (0 ≤ k ∧ k ≤ 7) ∧ (0 ≤ f ∧ f ≤ 9) ∧ (0 ≤ so ∧ so ≤ 2) ∧ (0 ≤ sz ∧ sz ≤ 100) ∧ ∀ i, 0 ≤ i → i < 100 → inI (E i)
def zer (E : Int → Int) (i : Int) : Int → Int := fun j => if 0 ≤ j ∧ j < i then 0 else E j
theorem zer_s {E : Int → Int} {i : Int} (h : 0 ≤ i) : upi (zer E i) i 0 = zer E (i + 1) := by
  funext j
  unfold upi zer
  repeat' split
  all_goals first | rfl | (exfalso; omega)
theorem zer_0 {E : Int → Int} : zer E 0 = E := by
  funext j
  unfold zer
  split
  · exfalso; omega
  · rfl
def refK (ct : Int) : Int := if ct = 0 then -11 else if ct = 1 then 0 else -12
def refR (ct : Int) : Int := if ct = 0 then -11 else if ct = 2 then 0 else -12
def nar (so v : Int) : Int := if so = 0 then Int.bmod v 256 else if so = 1 then Int.bmod v 65536 else v
def least (so : Int) : Int := if so = 0 then -128 else if so = 1 then -32768 else -2147483648
def pairP (E : Int → Int) (k : Int) : Bool := decide ((0 ≤ E (2 * k) ∧ E (2 * k) ≤ 99) ∧ (0 ≤ E (2 * k + 1) ∧ E (2 * k + 1) ≤ 1))
def pairsB (E : Int → Int) (sz : Int) : Bool := decide (sz % 2 = 0) && allI (pairP E) (sz / 2)
def numF (E : Int → Int) (fr n : Int) : Int := foldI (fun k x => 10 * x + E (fr + k) - 48) 0 n
theorem pairs_no {E : Int → Int} {sz : Int} (h : ¬ sz % 2 = 0) : ¬ pairsB E sz = true := by
  unfold pairsB; simp [h]
theorem pairs_bad {E : Int → Int} {sz i : Int} (h0 : 0 ≤ i ∧ i + 1 < sz) (he : i % 2 = 0) (h : ¬ ((0 ≤ E i ∧ E i ≤ 99) ∧ (0 ≤ E (i + 1) ∧ E (i + 1) ≤ 1))) : ¬ pairsB E sz = true := by
  intro q
  unfold pairsB at q
  rw [Bool.and_eq_true] at q
  have h2 := allI_iff.mp q.2 (i / 2) (by omega) (by omega)
  unfold pairP at h2
  rw [show 2 * (i / 2) = i by omega] at h2
  exact h (of_decide_eq_true h2)
theorem pairs_ok {E : Int → Int} {sz : Int} (h : sz % 2 = 0) (h2 : allI (pairP E) (sz / 2) = true) : pairsB E sz = true := by
  unfold pairsB; rw [h2]; simp [h]
theorem pairs_s {E : Int → Int} {i : Int} (h0 : 0 ≤ i) (he : i % 2 = 0) (ha : allI (pairP E) (i / 2) = true) (h : (0 ≤ E i ∧ E i ≤ 99) ∧ (0 ≤ E (i + 1) ∧ E (i + 1) ≤ 1)) : allI (pairP E) ((i + 2) / 2) = true := by
  rw [show (i + 2) / 2 = i / 2 + 1 by omega, allI_s (by omega), ha, Bool.true_and]
  unfold pairP
  rw [show 2 * (i / 2) = i by omega]
  exact decide_eq_true h
theorem numF_s {E : Int → Int} {a n : Int} (h : 0 ≤ n) : numF E a (n + 1) = 10 * numF E a n + E (a + n) - 48 := foldI_s h
