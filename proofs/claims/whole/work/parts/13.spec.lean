-- ===== what the component's cells are =====
abbrev inI (z : Int) : Prop := -2147483648 ≤ z ∧ z ≤ 2147483647
def CarAt (w : AW) (c : Nat) (D : Int → Int → Int) (n mi : Int) : Prop :=
  w c = eO 0 [aR 1, aR (c + 1), aR (c + 2), aR (c + 3), aR (c + 4), aR (c + 5), aR (c + 6), aR (c + 7), aI n, aI mi] ∧ w (c + 1) = eI 7 (D 0) ∧ w (c + 2) = eI 7 (D 1) ∧ w (c + 3) = eI 7 (D 2) ∧ w (c + 4) = eI 7 (D 3) ∧ w (c + 5) = eI 7 (D 4) ∧ w (c + 6) = eI 7 (D 5) ∧ w (c + 7) = eI 4 (D 6)
def kref (i : Int) : Option Nat := some (2 + i.toNat)
def KindsAt (w : AW) : Prop := w 1 = eR 2 8 kref ∧ w 2 = eO 7 [] ∧ w 3 = eO 6 [] ∧ w 4 = eO 9 [] ∧ w 5 = eO 4 [] ∧ w 6 = eO 5 [] ∧ w 7 = eO 3 [] ∧ w 8 = eO 1 [] ∧ w 9 = eO 2 []
def CarOK (D : Int → Int → Int) (n mi : Int) : Prop :=
  (0 ≤ n ∧ n ≤ 7 ∧ 0 ≤ mi ∧ mi ≤ 9999) ∧ (∀ p, 0 ≤ p → p < 7 → (0 ≤ D 0 p ∧ D 0 p ≤ 7) ∧ (0 ≤ D 1 p ∧ D 1 p ≤ 9) ∧ (0 ≤ D 2 p ∧ D 2 p ≤ 3) ∧ (0 ≤ D 3 p ∧ D 3 p ≤ 9) ∧ (0 ≤ D 4 p ∧ D 4 p ≤ 3) ∧ (0 ≤ D 5 p ∧ D 5 p ≤ 2)) ∧ (0 ≤ D 6 0 ∧ D 6 0 ≤ 99) ∧ (0 ≤ D 6 1 ∧ D 6 1 ≤ 9) ∧ (0 ≤ D 6 2 ∧ D 6 2 ≤ 5) ∧ (0 ≤ D 6 3 ∧ D 6 3 ≤ 40)
-- ===== kinds =====
def pl (f pace : Int) : Int := if 48 ≤ pace ∧ pace ≤ 53 then f else 0
def lo (f pace : Int) : Int := if 30 ≤ pace then f else 0
def loud (k f pace cold load : Int) : Int :=
  if k = 1 then lo f pace else if k = 2 then 2 * pl f pace else if k = 3 then (if 5 ≤ cold then lo f pace else 0) else if k = 4 then max 0 (pl f pace - load) else if k = 5 then (if 0 < 2 * pl f pace ∧ pace % 2 = 0 then 2 * pl f pace + 3 else 2 * pl f pace) else if k = 6 then 0 else if k = 7 then 2 * max 0 (pl f pace - load) else pl f pace
def secs (k f : Int) : Int := if k = 1 then 6 else if k = 2 then 10 + f else if k = 3 then 12 else if k = 4 then 15 else if k = 5 then 12 + f else if k = 7 then 15 else 10
def loos (k : Int) : Int := if k = 1 ∨ k = 3 then 3 else if k = 6 then 0 else 1
def price (k f : Int) : Int := if k = 1 then 2 else if k = 2 then 3 + f else if k = 3 then 4 else if k = 4 then 9 else if k = 5 then 5 + f else if k = 6 then 4 else if k = 7 then 9 + f else 3
theorem pl_bd {f pace : Int} (h : 0 ≤ f ∧ f ≤ 9) : 0 ≤ pl f pace ∧ pl f pace ≤ 9 := by unfold pl; split <;> omega
theorem lo_bd {f pace : Int} (h : 0 ≤ f ∧ f ≤ 9) : 0 ≤ lo f pace ∧ lo f pace ≤ 9 := by unfold lo; split <;> omega
theorem loud_bd {k f pace cold load : Int} (h : 0 ≤ f ∧ f ≤ 9) (hl : 0 ≤ load) : 0 ≤ loud k f pace cold load ∧ loud k f pace cold load ≤ 21 := by
  have := pl_bd (pace := pace) h
  have := lo_bd (pace := pace) h
  unfold loud
  repeat' split
  all_goals omega
theorem secs_bd {k f : Int} (h : 0 ≤ f ∧ f ≤ 9) : 6 ≤ secs k f ∧ secs k f ≤ 21 := by
  unfold secs
  repeat' split
  all_goals omega
theorem loos_bd {k : Int} : 0 ≤ loos k ∧ loos k ≤ 3 := by
  unfold loos
  repeat' split
  all_goals omega
-- ===== shelves =====
def ShelfAt (w : AW) (q : Nat) (ct k f so sz : Int) (E : Int → Int) : Prop := w q = eO 8 [aI ct, aI k, aI f, aI so, aI sz, aR (q + 1)] ∧ w (q + 1) = eI 100 E
def ShelfOK (ct k f so sz : Int) (E : Int → Int) : Prop := (0 ≤ ct ∧ ct ≤ 2) ∧ (0 ≤ k ∧ k ≤ 7) ∧ (0 ≤ f ∧ f ≤ 9) ∧ (0 ≤ so ∧ so ≤ 2) ∧ (0 ≤ sz ∧ sz ≤ 100) ∧ ∀ i, 0 ≤ i → i < 100 → inI (E i)
def zer (E : Int → Int) (i : Int) : Int → Int := fun j => if 0 ≤ j ∧ j < i then 0 else E j
theorem zer_s {E : Int → Int} {i : Int} (h : 0 ≤ i) : upi (zer E i) i 0 = zer E (i + 1) := by
  funext j
  unfold upi zer
  repeat' split
  all_goals first | rfl | (exfalso; omega)
theorem zer_0 {E : Int → Int} : zer E 0 = E := by
  funext j
  unfold zer
  split
  · exfalso; omega
  · rfl
def refK (ct : Int) : Int := if ct = 0 then -11 else if ct = 1 then 0 else -12
def refR (ct : Int) : Int := if ct = 0 then -11 else if ct = 2 then 0 else -12
def nar (so v : Int) : Int := if so = 0 then Int.bmod v 256 else if so = 1 then Int.bmod v 65536 else v
def least (so : Int) : Int := if so = 0 then -128 else if so = 1 then -32768 else -2147483648
def pairP (E : Int → Int) (k : Int) : Bool := decide ((0 ≤ E (2 * k) ∧ E (2 * k) ≤ 99) ∧ (0 ≤ E (2 * k + 1) ∧ E (2 * k + 1) ≤ 1))
def pairsB (E : Int → Int) (sz : Int) : Bool := decide (sz % 2 = 0) && allI (pairP E) (sz / 2)
def numF (E : Int → Int) (fr n : Int) : Int := foldI (fun k x => 10 * x + E (fr + k) - 48) 0 n
theorem pairs_no {E : Int → Int} {sz : Int} (h : ¬ sz % 2 = 0) : ¬ pairsB E sz = true := by
  unfold pairsB; simp [h]
theorem pairs_bad {E : Int → Int} {sz i : Int} (h0 : 0 ≤ i ∧ i + 1 < sz) (he : i % 2 = 0) (h : ¬ ((0 ≤ E i ∧ E i ≤ 99) ∧ (0 ≤ E (i + 1) ∧ E (i + 1) ≤ 1))) : ¬ pairsB E sz = true := by
  intro q
  unfold pairsB at q
  rw [Bool.and_eq_true] at q
  have h2 := allI_iff.mp q.2 (i / 2) (by omega) (by omega)
  unfold pairP at h2
  rw [show 2 * (i / 2) = i by omega] at h2
  exact h (of_decide_eq_true h2)
theorem pairs_ok {E : Int → Int} {sz : Int} (h : sz % 2 = 0) (h2 : allI (pairP E) (sz / 2) = true) : pairsB E sz = true := by
  unfold pairsB; rw [h2]; simp [h]
theorem pairs_s {E : Int → Int} {i : Int} (h0 : 0 ≤ i) (he : i % 2 = 0) (ha : allI (pairP E) (i / 2) = true) (h : (0 ≤ E i ∧ E i ≤ 99) ∧ (0 ≤ E (i + 1) ∧ E (i + 1) ≤ 1)) : allI (pairP E) ((i + 2) / 2) = true := by
  rw [show (i + 2) / 2 = i / 2 + 1 by omega, allI_s (by omega), ha, Bool.true_and]
  unfold pairP
  rw [show 2 * (i / 2) = i by omega]
  exact decide_eq_true h
theorem numF_s {E : Int → Int} {a n : Int} (h : 0 ≤ n) : numF E a (n + 1) = 10 * numF E a n + E (a + n) - 48 := foldI_s h
-- ===== the car as a value (D, n, mi) =====
def carW (w : AW) (c : Nat) (D : Int → Int → Int) (n mi : Int) : AW := fun j => if j = c then eO 0 [aR 1, aR (c + 1), aR (c + 2), aR (c + 3), aR (c + 4), aR (c + 5), aR (c + 6), aR (c + 7), aI n, aI mi] else if j = c + 1 then eI 7 (D 0) else if j = c + 2 then eI 7 (D 1) else if j = c + 3 then eI 7 (D 2) else if j = c + 4 then eI 7 (D 3) else if j = c + 5 then eI 7 (D 4) else if j = c + 6 then eI 7 (D 5) else if j = c + 7 then eI 4 (D 6) else w j
theorem CarAt_carW {w : AW} {c : Nat} {D : Int → Int → Int} {n mi : Int} : CarAt (carW w c D n mi) c D n mi := by
  unfold CarAt carW
  simp
theorem carW_id {w : AW} {c : Nat} {D : Int → Int → Int} {n mi : Int} (h : CarAt w c D n mi) : carW w c D n mi = w := by
  obtain ⟨h0, h1, h2, h3, h4, h5, h6, h7⟩ := h
  funext j
  unfold carW
  repeat' split
  all_goals first | rfl | (subst_vars; simp only [*])
theorem carW_out {w : AW} {c j : Nat} {D : Int → Int → Int} {n mi : Int} (h : j < c ∨ c + 8 ≤ j) : carW w c D n mi j = w j := by
  unfold carW
  repeat' split
  all_goals first | rfl | (exfalso; omega)
theorem carW_carW {w : AW} {c : Nat} {D D' : Int → Int → Int} {n mi n' mi' : Int} : carW (carW w c D n mi) c D' n' mi' = carW w c D' n' mi' := by
  funext j
  by_cases h : j < c ∨ c + 8 ≤ j
  · rw [carW_out h, carW_out h, carW_out h]
  · rcases (show j = c ∨ j = c + 1 ∨ j = c + 2 ∨ j = c + 3 ∨ j = c + 4 ∨ j = c + 5 ∨ j = c + 6 ∨ j = c + 7 by omega) with rfl | rfl | rfl | rfl | rfl | rfl | rfl | rfl <;> simp [carW]
def upD (D : Int → Int → Int) (j p v : Int) : Int → Int → Int := fun i => if i = j then upi (D j) p v else D i
theorem upD_s {D : Int → Int → Int} {j p v : Int} : upD D j p v j = upi (D j) p v := by simp [upD]
theorem upD_n {D : Int → Int → Int} {i j p v : Int} (h : i ≠ j) : upD D j p v i = D i := by simp [upD, h]
theorem carW_other {w : AW} {c c' : Nat} {D D' : Int → Int → Int} {n mi n' mi' : Int} (h : CarAt w c' D' n' mi') (hd : c' + 8 ≤ c ∨ c + 8 ≤ c') : CarAt (carW w c D n mi) c' D' n' mi' := by
  unfold CarAt
  refine ⟨?_, ?_, ?_, ?_, ?_, ?_, ?_, ?_⟩ <;> rw [carW_out (by omega)]
  · exact h.1
  · exact h.2.1
  · exact h.2.2.1
  · exact h.2.2.2.1
  · exact h.2.2.2.2.1
  · exact h.2.2.2.2.2.1
  · exact h.2.2.2.2.2.2.1
  · exact h.2.2.2.2.2.2.2
theorem carW_kinds {w : AW} {c : Nat} {D : Int → Int → Int} {n mi : Int} (h : KindsAt w) (hd : 10 ≤ c) : KindsAt (carW w c D n mi) := by
  unfold KindsAt
  refine ⟨?_, ?_, ?_, ?_, ?_, ?_, ?_, ?_, ?_⟩ <;> rw [carW_out (by omega)]
  · exact h.1
  · exact h.2.1
  · exact h.2.2.1
  · exact h.2.2.2.1
  · exact h.2.2.2.2.1
  · exact h.2.2.2.2.2.1
  · exact h.2.2.2.2.2.2.1
  · exact h.2.2.2.2.2.2.2.1
  · exact h.2.2.2.2.2.2.2.2
theorem carW_shelf {w : AW} {c q : Nat} {D : Int → Int → Int} {n mi ct k f so sz : Int} {E : Int → Int} (h : ShelfAt w q ct k f so sz E) (hd : q + 2 ≤ c ∨ c + 8 ≤ q) : ShelfAt (carW w c D n mi) q ct k f so sz E := by
  unfold ShelfAt
  refine ⟨?_, ?_⟩ <;> rw [carW_out (by omega)]
  · exact h.1
  · exact h.2
def okIn (k f s v : Int) : Prop := (0 ≤ k ∧ k ≤ 7) ∧ (0 ≤ f ∧ f ≤ 9) ∧ (0 ≤ s ∧ s ≤ 3) ∧ (1 ≤ v ∧ v ≤ 9)
def inD (D : Int → Int → Int) (n k f s v : Int) : Int → Int → Int := upD (upD (upD (upD (upD (upD D 0 n k) 1 n f) 2 n s) 3 n v) 4 n 0) 5 n 0
def hasP (n p : Int) : Prop := 0 ≤ p ∧ p < n
def nxt (n p : Int) : Int := if p + 1 < n then p + 1 else 0
def scrD (D : Int → Int → Int) (n p : Int) : Int → Int → Int := if nxt n p = p then upD D 1 p 0 else upD (upD D 1 p 0) 1 (nxt n p) (min 9 (D 1 (nxt n p) + loos (D 0 (nxt n p))))
def eD1 (D : Int → Int → Int) (j p : Int) : Int := if j = 4 then (if D 4 p = 1 then 0 else if D 4 p = 2 then (if 2 ≤ D 5 p + 1 then 0 else 2) else D 4 p) else if j = 5 then (if D 4 p = 2 then D 5 p + 1 else D 5 p) else D j p
def endD (D : Int → Int → Int) (n : Int) : Int → Int → Int := fun j p => if 0 ≤ p ∧ p < n then eD1 D j p else D j p
def stD (D E : Int → Int → Int) (x : Int) : Int → Int → Int := fun j p => if j = 4 ∧ 0 ≤ p ∧ p < x then E 0 p else D j p
def snd (D : Int → Int → Int) (p seat pace : Int) : Int := if D 4 p = 0 then max 0 (loud (D 0 p) (D 1 p) pace (D 6 1) (D 6 2) - iab (seat - D 2 p)) else 0
def bt (set p : Int) : Int := set / 2 ^ p.toNat % 2 ^ 1
def sab (D : Int → Int → Int) (n set seat pace : Int) : Int := sumI (fun p => if bt set p = 0 then snd D p seat pace else 0) n
def hrd (D : Int → Int → Int) (n seat pace : Int) : Int := max 0 (sumI (fun p => snd D p seat pace) n - D 6 3)
def lst (D : Int → Int → Int) (n seat : Int) : Int × Int := foldI (fun p x => if x.2 < snd D p seat (D 6 0) then (p, snd D p seat (D 6 0)) else x) (-4, 0) n
def figs (D : Int → Int → Int) (n : Int) : Int := sumI (D 1) n
def wts (D : Int → Int → Int) (n set : Int) : Int := sumI (fun p => if bt set p = 1 then D 3 p else 0) n
def secO (D : Int → Int → Int) (n set : Int) : Int := sumI (fun p => if bt set p = 1 then secs (D 0 p) (D 1 p) else 0) n
theorem iab_bd {a : Int} : 0 ≤ iab a := by unfold iab; split <;> omega
theorem snd_bd {D : Int → Int → Int} {p seat pace : Int} (hf : 0 ≤ D 1 p ∧ D 1 p ≤ 9) (hl : 0 ≤ D 6 2) : 0 ≤ snd D p seat pace ∧ snd D p seat pace ≤ 21 := by
  unfold snd
  split
  · have := loud_bd (k := D 0 p) (pace := pace) (cold := D 6 1) hf hl
    have := iab_bd (a := seat - D 2 p)
    omega
  · omega
theorem sab0 {D : Int → Int → Int} {n seat pace : Int} : sab D n 0 seat pace = sumI (fun p => snd D p seat pace) n := by
  unfold sab
  apply sumI_congr
  intro k h1 h2
  rw [if_pos]
  unfold bt
  rw [Int.zero_ediv]
  rfl
theorem carW_ext {w w' : AW} {c : Nat} {D : Int → Int → Int} {n mi : Int} (h0 : w' c = eO 0 [aR 1, aR (c + 1), aR (c + 2), aR (c + 3), aR (c + 4), aR (c + 5), aR (c + 6), aR (c + 7), aI n, aI mi]) (h1 : w' (c + 1) = eI 7 (D 0)) (h2 : w' (c + 2) = eI 7 (D 1)) (h3 : w' (c + 3) = eI 7 (D 2)) (h4 : w' (c + 4) = eI 7 (D 3)) (h5 : w' (c + 5) = eI 7 (D 4)) (h6 : w' (c + 6) = eI 7 (D 5)) (h7 : w' (c + 7) = eI 4 (D 6)) (ho : ∀ j, (j < c ∨ c + 8 ≤ j) → w' j = w j) : w' = carW w c D n mi := by
  funext j
  by_cases h : j < c ∨ c + 8 ≤ j
  · rw [carW_out h, ho j h]
  · rcases (show j = c ∨ j = c + 1 ∨ j = c + 2 ∨ j = c + 3 ∨ j = c + 4 ∨ j = c + 5 ∨ j = c + 6 ∨ j = c + 7 by omega) with rfl | rfl | rfl | rfl | rfl | rfl | rfl | rfl <;> simp [carW, *]
def holdR (D : Int → Int → Int) (n p : Int) : Int := if 0 ≤ p ∧ p < n then (if D 4 p = 3 then -3 else secs (D 0 p) (D 1 p)) else -1
def holdD (D : Int → Int → Int) (n p : Int) : Int → Int → Int := if (0 ≤ p ∧ p < n) ∧ ¬ D 4 p = 3 then upD D 4 p 1 else D
def wedR (D : Int → Int → Int) (n p : Int) : Int := if 0 ≤ p ∧ p < n then (if D 4 p = 3 then -3 else D 4 p) else -1
def wedD (D : Int → Int → Int) (n p : Int) : Int → Int → Int := if (0 ≤ p ∧ p < n) ∧ ¬ D 4 p = 3 then upD (upD D 4 p 2) 5 p 0 else D
def outR (D : Int → Int → Int) (n p : Int) : Int := if 0 ≤ p ∧ p < n then (if D 4 p = 3 then 0 else 3) else -1
def outD (D : Int → Int → Int) (n p : Int) : Int → Int → Int := if 0 ≤ p ∧ p < n then upD D 4 p (if D 4 p = 3 then 0 else 3) else D
def scrR (D : Int → Int → Int) (n p : Int) : Int := if 0 ≤ p ∧ p < n then scrD D n p 1 (nxt n p) else -1
def scwD (D : Int → Int → Int) (n p : Int) : Int → Int → Int := if 0 ≤ p ∧ p < n then scrD D n p else D
def okCh (what v : Int) : Prop := (0 ≤ what ∧ what ≤ 3) ∧ 0 ≤ v ∧ v ≤ mos what
def chR (D : Int → Int → Int) (what v : Int) : Int := if (0 ≤ what ∧ what ≤ 3) ∧ 0 ≤ v ∧ v ≤ mos what then D 6 what else -1
def chD (D : Int → Int → Int) (what v : Int) : Int → Int → Int := if (0 ≤ what ∧ what ≤ 3) ∧ 0 ≤ v ∧ v ≤ mos what then upD D 6 what v else D
def drR (mi x : Int) : Int := if 1 ≤ x ∧ x ≤ 99 then (if 9999 < mi + x then -3 else 0) else -1
def drD (D : Int → Int → Int) (n mi x : Int) : Int → Int → Int := if (1 ≤ x ∧ x ≤ 99) ∧ mi + x ≤ 9999 then endD D n else D
def drM (mi x : Int) : Int := if (1 ≤ x ∧ x ≤ 99) ∧ mi + x ≤ 9999 then mi + x else mi
def tiR (n k f s v : Int) : Int := if (0 ≤ k ∧ k ≤ 7) ∧ (0 ≤ f ∧ f ≤ 9) ∧ (0 ≤ s ∧ s ≤ 3) ∧ (1 ≤ v ∧ v ≤ 9) then (if n < 7 then n else -2) else -1
def tiD (D : Int → Int → Int) (n k f s v : Int) : Int → Int → Int := if ((0 ≤ k ∧ k ≤ 7) ∧ (0 ≤ f ∧ f ≤ 9) ∧ (0 ≤ s ∧ s ≤ 3) ∧ (1 ≤ v ∧ v ≤ 9)) ∧ n < 7 then inD D n k f s v else D
def tiN (n k f s v : Int) : Int := if ((0 ≤ k ∧ k ≤ 7) ∧ (0 ≤ f ∧ f ≤ 9) ∧ (0 ≤ s ∧ s ≤ 3) ∧ (1 ≤ v ∧ v ≤ 9)) ∧ n < 7 then n + 1 else n
theorem endD_0 {D : Int → Int → Int} : endD D 0 = D := by
  funext j p
  unfold endD
  rw [if_neg (by omega)]
theorem upi_id {f : Int → Int} {i : Int} : upi f i (f i) = f := by
  funext p; unfold upi; split
  · subst_vars; rfl
  · rfl
theorem endD_at {D : Int → Int → Int} {i j : Int} : endD D i j i = D j i := by
  unfold endD; rw [if_neg (by omega)]
theorem endD_far {D : Int → Int → Int} {i j p : Int} (hp : ¬ p = i) : endD D i j p = endD D (i + 1) j p := by
  unfold endD
  by_cases h : 0 ≤ p ∧ p < i
  · rw [if_pos h, if_pos (by omega)]
  · rw [if_neg h, if_neg (by omega)]
theorem endD_s4 {D : Int → Int → Int} {i x : Int} (hi : 0 ≤ i) (hx : x = (if D 4 i = 1 then 0 else if D 4 i = 2 then (if 2 ≤ D 5 i + 1 then 0 else 2) else D 4 i)) : upi (endD D i 4) i x = endD D (i + 1) 4 := by
  funext p
  by_cases hp : p = i
  · subst hp
    rw [upi_s]
    unfold endD
    rw [if_pos (by omega), hx]
    rfl
  · rw [upi_n hp, endD_far hp]
theorem endD_s5 {D : Int → Int → Int} {i x : Int} (hi : 0 ≤ i) (hx : x = (if D 4 i = 2 then D 5 i + 1 else D 5 i)) : upi (endD D i 5) i x = endD D (i + 1) 5 := by
  funext p
  by_cases hp : p = i
  · subst hp
    rw [upi_s]
    unfold endD
    rw [if_pos (by omega), hx]
    rfl
  · rw [upi_n hp, endD_far hp]
theorem endD_k4 {D : Int → Int → Int} {i : Int} (hi : 0 ≤ i) (h1 : ¬ D 4 i = 1) (h2 : ¬ D 4 i = 2) : endD D i 4 = endD D (i + 1) 4 := by
  rw [← endD_s4 (x := endD D i 4 i) hi (by rw [endD_at]; simp [h1, h2]), upi_id]
theorem endD_k5 {D : Int → Int → Int} {i : Int} (hi : 0 ≤ i) (h2 : ¬ D 4 i = 2) : endD D i 5 = endD D (i + 1) 5 := by
  rw [← endD_s5 (x := endD D i 5 i) hi (by rw [endD_at]; simp [h2]), upi_id]
theorem endD_o {D : Int → Int → Int} {n j : Int} (h4 : j ≠ 4) (h5 : j ≠ 5) : endD D n j = D j := by
  funext p; unfold endD eD1; simp [h4, h5]
theorem KindsAt_up {w : AW} {q : Nat} {e : AE} (h : KindsAt w) (hq : 10 ≤ q) : KindsAt (up w q e) := by
  unfold KindsAt
  refine ⟨?_, ?_, ?_, ?_, ?_, ?_, ?_, ?_, ?_⟩ <;> rw [up_n (by omega)]
  · exact h.1
  · exact h.2.1
  · exact h.2.2.1
  · exact h.2.2.2.1
  · exact h.2.2.2.2.1
  · exact h.2.2.2.2.2.1
  · exact h.2.2.2.2.2.2.1
  · exact h.2.2.2.2.2.2.2.1
  · exact h.2.2.2.2.2.2.2.2
/-- a wedge is counted at most once while it holds -/
def WdOK (D : Int → Int → Int) : Prop := ∀ p, 0 ≤ p → p < 7 → D 4 p = 2 → D 5 p ≤ 1
