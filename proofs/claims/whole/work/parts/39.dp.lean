-- ===== the least cost of joining: by halves of sets, and by the two least =====
theorem min_ex : ∀ (L : List Int), 1 ≤ L.length → ∃ a R, L.Perm (a :: R) ∧ ∀ x ∈ R, a ≤ x
  | [], h => absurd h (by decide)
  | [x], _ => ⟨x, [], List.Perm.refl _, fun y hy => absurd hy List.not_mem_nil⟩
  | x :: y :: l, _ => by
    obtain ⟨a, R, h1, h2⟩ := min_ex (y :: l) (by simp)
    by_cases hc : x ≤ a
    · refine ⟨x, a :: R, h1.cons x, fun z hz => ?_⟩
      rcases List.mem_cons.mp hz with rfl | hz
      · exact hc
      · have := h2 z hz; omega
    · refine ⟨a, x :: R, (h1.cons x).trans (List.Perm.swap _ _ _), fun z hz => ?_⟩
      rcases List.mem_cons.mp hz with rfl | hz
      · omega
      · exact h2 z hz
theorem max_ex : ∀ (L : List Int), 1 ≤ L.length → ∃ a R, L.Perm (a :: R) ∧ ∀ x ∈ R, x ≤ a
  | [], h => absurd h (by decide)
  | [x], _ => ⟨x, [], List.Perm.refl _, fun y hy => absurd hy List.not_mem_nil⟩
  | x :: y :: l, _ => by
    obtain ⟨a, R, h1, h2⟩ := max_ex (y :: l) (by simp)
    by_cases hc : a ≤ x
    · refine ⟨x, a :: R, h1.cons x, fun z hz => ?_⟩
      rcases List.mem_cons.mp hz with rfl | hz
      · exact hc
      · have := h2 z hz; omega
    · refine ⟨a, x :: R, (h1.cons x).trans (List.Perm.swap _ _ _), fun z hz => ?_⟩
      rcases List.mem_cons.mp hz with rfl | hz
      · omega
      · exact h2 z hz
theorem HC_ex : ∀ (k : Nat) (L : List Int), L.length = k + 1 → ∃ c, HC k L c
  | 0, L, h => by
    obtain ⟨x, hx⟩ := List.length_eq_one_iff.mp h
    exact ⟨0, ⟨x, hx⟩, rfl⟩
  | k + 1, L, h => by
    obtain ⟨a, R, h1, h2⟩ := min_ex L (by omega)
    have hl := h1.length_eq
    simp at hl
    obtain ⟨b, R', g1, g2⟩ := min_ex R (by omega)
    have hl2 := g1.length_eq
    simp at hl2
    obtain ⟨c, hc⟩ := HC_ex k ((a + b) :: R') (by simp; omega)
    exact ⟨c + (a + b), a, b, R', c, h1.trans (g1.cons a), ⟨h2 b (g1.mem_iff.mpr List.mem_cons_self), g2⟩, hc, rfl⟩
theorem OB_ex : ∀ (k : Nat) (L : List Int), L.length = k + 1 → ∃ c, OB k L c
  | 0, L, h => by
    obtain ⟨x, hx⟩ := List.length_eq_one_iff.mp h
    exact ⟨0, ⟨x, hx⟩, rfl⟩
  | k + 1, L, h => by
    obtain ⟨a, R, h1, h2⟩ := max_ex L (by omega)
    have hl := h1.length_eq
    simp at hl
    obtain ⟨c, hc⟩ := OB_ex k R (by omega)
    exact ⟨c + lsum L, a, R, c, h1, h2, hc, rfl⟩
theorem HC_le : ∀ {k : Nat} {L : List Int} {c : Int}, HC k L c → (∀ x ∈ L, 0 ≤ x) → c ≤ k * lsum L
  | 0, L, c, ⟨_, h⟩, _ => by simp [h]
  | k + 1, L, c, ⟨a, b, R, c', h1, h2, h3, h4⟩, hp => by
    have ha := hp a (h1.mem_iff.mpr List.mem_cons_self)
    have hb := hp b (h1.mem_iff.mpr (List.mem_cons_of_mem _ List.mem_cons_self))
    have hR : ∀ x ∈ R, 0 ≤ x := fun x hx => hp x (h1.mem_iff.mpr (List.mem_cons_of_mem _ (List.mem_cons_of_mem _ hx)))
    have ih := HC_le h3 (fun x hx => by
      rcases List.mem_cons.mp hx with rfl | hx
      · omega
      · exact hR x hx)
    have e : lsum L = a + (b + lsum R) := lsum_perm h1
    have e2 : lsum ((a + b) :: R) = (a + b) + lsum R := rfl
    have e3 := lsum_pos hR
    rw [show ((a + b) + lsum R) = lsum L by omega] at e2
    rw [e2] at ih
    rw [Int.natCast_add, Int.add_mul]
    omega
theorem OB_le : ∀ {k : Nat} {L : List Int} {c : Int}, OB k L c → (∀ x ∈ L, 0 ≤ x) → 0 ≤ c ∧ c ≤ k * lsum L
  | 0, L, c, ⟨_, h⟩, _ => by simp [h]
  | k + 1, L, c, ⟨a, R, c', h1, h2, h3, h4⟩, hp => by
    have ha := hp a (h1.mem_iff.mpr List.mem_cons_self)
    have hR : ∀ x ∈ R, 0 ≤ x := fun x hx => hp x (h1.mem_iff.mpr (List.mem_cons_of_mem _ hx))
    have ih := OB_le h3 hR
    have e : lsum L = a + lsum R := lsum_perm h1
    have e3 := lsum_pos hR
    have h5 : (k : Int) * lsum R ≤ k * lsum L := Int.mul_le_mul_of_nonneg_left (by omega) (by omega)
    rw [Int.natCast_add, Int.add_mul]
    omega
-- depths: pairs of a weight and how deep it stands
def cst : List (Int × Nat) → Int
  | [] => 0
  | q :: l => q.1 * q.2 + cst l
def kr : List (Int × Nat) → Int
  | [] => 0
  | q :: l => 2 ^ (7 - q.2) + kr l
def td : List (Int × Nat) → Nat
  | [] => 0
  | q :: l => q.2 + td l
theorem cst_perm {a b : List (Int × Nat)} (h : a.Perm b) : cst a = cst b := by
  induction h with
  | nil => rfl
  | cons x _ ih => show x.1 * x.2 + cst _ = x.1 * x.2 + cst _; rw [ih]
  | swap x y l => show y.1 * y.2 + (x.1 * x.2 + cst l) = x.1 * x.2 + (y.1 * y.2 + cst l); omega
  | trans _ _ h1 h2 => exact h1.trans h2
theorem kr_perm {a b : List (Int × Nat)} (h : a.Perm b) : kr a = kr b := by
  induction h with
  | nil => rfl
  | cons x _ ih => show 2 ^ (7 - x.2) + kr _ = 2 ^ (7 - x.2) + kr _; rw [ih]
  | swap x y l => show 2 ^ (7 - y.2) + (2 ^ (7 - x.2) + kr l) = 2 ^ (7 - x.2) + (2 ^ (7 - y.2) + kr l); omega
  | trans _ _ h1 h2 => exact h1.trans h2
theorem td_perm {a b : List (Int × Nat)} (h : a.Perm b) : td a = td b := by
  induction h with
  | nil => rfl
  | cons x _ ih => show x.2 + td _ = x.2 + td _; rw [ih]
  | swap x y l => show y.2 + (x.2 + td l) = x.2 + (y.2 + td l); omega
  | trans _ _ h1 h2 => exact h1.trans h2
theorem kr_pos : ∀ (A : List (Int × Nat)), 0 ≤ kr A
  | [] => Int.le_refl _
  | q :: l => by
    have := kr_pos l
    have h2 : (0 : Int) < 2 ^ (7 - q.2) := Int.pow_pos (by omega)
    show 0 ≤ 2 ^ (7 - q.2) + kr l
    omega
theorem cst_pos : ∀ (A : List (Int × Nat)), (∀ q ∈ A, 0 ≤ q.1) → 0 ≤ cst A
  | [], _ => Int.le_refl _
  | q :: l, h => by
    have h1 := cst_pos l (fun x hx => h x (List.mem_cons_of_mem _ hx))
    have h2 : 0 ≤ q.1 * (q.2 : Int) := Int.mul_nonneg (h q List.mem_cons_self) (by omega)
    show 0 ≤ q.1 * q.2 + cst l
    omega
theorem dmax : ∀ (A : List (Int × Nat)), A ≠ [] → ∃ q B, A.Perm (q :: B) ∧ ∀ x ∈ A, x.2 ≤ q.2
  | [], h => absurd rfl h
  | [x], _ => ⟨x, [], List.Perm.refl _, fun y hy => by rw [List.mem_singleton.mp hy]; exact Nat.le_refl _⟩
  | x :: y :: l, _ => by
    obtain ⟨q, B, h1, h2⟩ := dmax (y :: l) (by simp)
    by_cases hc : q.2 ≤ x.2
    · refine ⟨x, y :: l, List.Perm.refl _, fun z hz => ?_⟩
      rcases List.mem_cons.mp hz with rfl | hz
      · exact Nat.le_refl _
      · exact Nat.le_trans (h2 z hz) hc
    · refine ⟨q, x :: B, (h1.cons x).trans (List.Perm.swap _ _ _), fun z hz => ?_⟩
      rcases List.mem_cons.mp hz with rfl | hz
      · omega
      · exact h2 z hz
theorem mem_perm {α : Type} {x : α} : ∀ {l : List α}, x ∈ l → ∃ r, l.Perm (x :: r)
  | [], h => absurd h List.not_mem_nil
  | y :: l, h => by
    rcases List.mem_cons.mp h with rfl | h
    · exact ⟨l, List.Perm.refl _⟩
    · obtain ⟨r, hr⟩ := mem_perm h
      exact ⟨y :: r, (hr.cons y).trans (List.Perm.swap _ _ _)⟩
/-- the least weight may as well stand deepest -/
theorem exch {A : List (Int × Nat)} {a : Int} {R : List Int} (h : (A.map (·.1)).Perm (a :: R)) (hm : ∀ x ∈ R, a ≤ x) : ∃ m A1, (A1.map (·.1)).Perm R ∧ cst ((a, m) :: A1) ≤ cst A ∧ kr ((a, m) :: A1) = kr A ∧ td ((a, m) :: A1) = td A ∧ (∀ q ∈ A1, q.2 ≤ m) ∧ ∃ q ∈ A, q.2 = m := by
  have hne : A ≠ [] := by intro e; subst e; have := h.length_eq; simp at this
  obtain ⟨q, B, h1, h2⟩ := dmax A hne
  have hamem : a ∈ A.map (·.1) := h.mem_iff.mpr List.mem_cons_self
  obtain ⟨p, hp, hpa⟩ := List.mem_map.mp hamem
  have hqA : q ∈ A := h1.mem_iff.mpr List.mem_cons_self
  have hB : ∀ x ∈ B, x.2 ≤ q.2 := fun x hx => h2 x (h1.mem_iff.mpr (List.mem_cons_of_mem _ hx))
  rcases List.mem_cons.mp (h1.mem_iff.mp hp) with hpq | hpB
  · have e : (a, q.2) = q := by rw [← hpa, hpq]
    refine ⟨q.2, B, ?_, ?_, ?_, ?_, hB, q, hqA, rfl⟩
    · have h3 := (h1.map (·.1)).symm.trans h
      have h4 : (a :: B.map (·.1)).Perm (a :: R) := by
        have : q.1 = a := by rw [← hpq]; exact hpa
        rw [List.map_cons, this] at h3
        exact h3
      exact h4.cons_inv
    · rw [e, cst_perm h1]; exact Int.le_refl _
    · rw [e, kr_perm h1]
    · rw [e, td_perm h1]
  · obtain ⟨B', hB'⟩ := mem_perm hpB
    have hA : A.Perm (q :: p :: B') := h1.trans (hB'.cons q)
    have hwq : a ≤ q.1 := by
      have : q.1 ∈ a :: R := h.mem_iff.mp (List.mem_map.mpr ⟨q, hqA, rfl⟩)
      rcases List.mem_cons.mp this with e | e
      · omega
      · exact hm _ e
    have hpm := h2 p hp
    refine ⟨q.2, (q.1, p.2) :: B', ?_, ?_, ?_, ?_, fun x hx => ?_, q, hqA, rfl⟩
    · have h3 := (hA.map (·.1)).symm.trans h
      rw [List.map_cons, List.map_cons, hpa] at h3
      exact ((List.Perm.swap _ _ _).trans h3).cons_inv
    · rw [cst_perm hA]
      show a * (q.2 : Int) + (q.1 * (p.2 : Int) + cst B') ≤ q.1 * q.2 + (p.1 * p.2 + cst B')
      rw [hpa]
      have h4 : 0 ≤ (q.1 - a) * ((q.2 : Int) - p.2) := Int.mul_nonneg (by omega) (by omega)
      rw [Int.sub_mul, Int.mul_sub, Int.mul_sub] at h4
      omega
    · rw [kr_perm hA]
      show 2 ^ (7 - q.2) + (2 ^ (7 - p.2) + kr B') = 2 ^ (7 - q.2) + (2 ^ (7 - p.2) + kr B')
      rfl
    · rw [td_perm hA]
      show q.2 + (p.2 + td B') = q.2 + (p.2 + td B')
      rfl
    · rcases List.mem_cons.mp hx with rfl | hx
      · exact hpm
      · exact hB x (hB'.mem_iff.mpr (List.mem_cons_of_mem _ hx))
theorem kr_dvd : ∀ (A : List (Int × Nat)) (m : Nat), m ≤ 7 → (∀ q ∈ A, q.2 ≤ m) → ∃ t : Int, kr A = 2 ^ (7 - m) * t
  | [], m, _, _ => ⟨0, by show (0 : Int) = _; omega⟩
  | q :: l, m, hm, h => by
    obtain ⟨t, ht⟩ := kr_dvd l m hm (fun x hx => h x (List.mem_cons_of_mem _ hx))
    have hq := h q List.mem_cons_self
    refine ⟨2 ^ (m - q.2) + t, ?_⟩
    show 2 ^ (7 - q.2) + kr l = _
    rw [ht, Int.mul_add, ← Int.pow_add, show 7 - m + (m - q.2) = 7 - q.2 by omega]
theorem kr_len : ∀ (A : List (Int × Nat)), (A.length : Int) ≤ kr A
  | [] => Int.le_refl _
  | q :: l => by
    have := kr_len l
    have h2 : (0 : Int) < 2 ^ (7 - q.2) := Int.pow_pos (by omega)
    show (((l.length + 1 : Nat)) : Int) ≤ 2 ^ (7 - q.2) + kr l
    omega
theorem HC_low : ∀ (k : Nat) (T : Nat) (L : List Int) (c : Int), HC k L c → (∀ x ∈ L, 0 ≤ x) → ∀ A : List (Int × Nat), td A ≤ T → (A.map (·.1)).Perm L → (∀ q ∈ A, q.2 ≤ 7) → kr A ≤ 128 → c ≤ cst A
  | 0, T, L, c, ⟨_, hc⟩, hp, A, _, hA, _, _ => by
    have := cst_pos A (fun q hq => hp _ (hA.mem_iff.mp (List.mem_map.mpr ⟨q, hq, rfl⟩)))
    omega
  | k + 1, T, L, c, h, hp, A, hT, hA, h7, hk => by
    have h0 := h
    obtain ⟨a, b, R, c', h1, h2, h3, h4⟩ := h
    have ha0 := hp a (h1.mem_iff.mpr List.mem_cons_self)
    have hb0 := hp b (h1.mem_iff.mpr (List.mem_cons_of_mem _ List.mem_cons_self))
    obtain ⟨m, A1, e1, e2, e3, e4, e5, qm, eq1, eq2⟩ := exch (hA.trans h1) (fun x hx => by
      rcases List.mem_cons.mp hx with rfl | hx
      · exact h2.1
      · have := h2.2 x hx; omega)
    obtain ⟨m2, A2, f1, f2, f3, f4, f5, qn, fq1, fq2⟩ := exch e1 h2.2
    have hm7 : m ≤ 7 := by rw [← eq2]; exact h7 _ eq1
    have hm2 : m2 ≤ m := by rw [← fq2]; exact e5 _ fq1
    have ek : kr A = 2 ^ (7 - m) + (2 ^ (7 - m2) + kr A2) := by rw [← e3]; show 2 ^ (7 - m) + kr A1 = _; rw [← f3]; rfl
    have ec : a * (m : Int) + (b * (m2 : Int) + cst A2) ≤ cst A := by
      have g1 : a * (m : Int) + cst A1 ≤ cst A := e2
      have g2 : b * (m2 : Int) + cst A2 ≤ cst A1 := f2
      omega
    have et : td A = m + (m2 + td A2) := by
      have g1 : m + td A1 = td A := e4
      have g2 : m2 + td A2 = td A1 := f4
      omega
    have hkp := kr_pos A2
    have hm1 : 1 ≤ m := by
      rcases Nat.eq_zero_or_pos m with h9 | h9
      · exfalso
        have h8 : m2 = 0 := by omega
        rw [h9, h8] at ek
        simp at ek
        omega
      · exact h9
    have hA2 : ∀ q ∈ A2, q.2 ≤ 7 := fun q hq => Nat.le_trans (f5 q hq) (by omega)
    by_cases hmm : m2 = m
    · subst hmm
      have hpow : (2 : Int) ^ (7 - m2) + 2 ^ (7 - m2) = 2 ^ (7 - (m2 - 1)) := by
        rw [show 7 - (m2 - 1) = (7 - m2) + 1 by omega, Int.pow_succ]; omega
      have ih := HC_low k (td ((a + b, m2 - 1) :: A2)) _ c' h3 (fun x hx => by
        rcases List.mem_cons.mp hx with rfl | hx
        · omega
        · exact hp x (h1.mem_iff.mpr (List.mem_cons_of_mem _ (List.mem_cons_of_mem _ hx)))) ((a + b, m2 - 1) :: A2) (Nat.le_refl _) (by rw [List.map_cons]; exact f1.cons _) (fun q hq => by
        rcases List.mem_cons.mp hq with rfl | hq
        · show m2 - 1 ≤ 7; omega
        · exact hA2 q hq) (by show 2 ^ (7 - (m2 - 1)) + kr A2 ≤ 128; rw [← hpow]; omega)
      have e9 : cst ((a + b, m2 - 1) :: A2) = (a + b) * ((m2 : Int) - 1) + cst A2 := by
        show (a + b) * ((m2 - 1 : Nat) : Int) + cst A2 = _
        rw [show ((m2 - 1 : Nat) : Int) = (m2 : Int) - 1 by omega]
      rw [e9, Int.mul_sub, Int.add_mul] at ih
      omega
    · obtain ⟨t, ht⟩ := kr_dvd ((b, m2) :: A2) (m - 1) (by omega) (fun q hq => by
        rcases List.mem_cons.mp hq with rfl | hq
        · show m2 ≤ m - 1; omega
        · have := f5 q hq; omega)
      have ek2 : kr A = 2 ^ (7 - m) + 2 ^ (7 - (m - 1)) * t := by rw [ek, ← ht]; rfl
      have hred : 2 ^ (7 - (m - 1)) + 2 ^ (7 - (m - 1)) * t ≤ (128 : Int) := by
        rw [ek2] at hk
        rcases (show m = 1 ∨ m = 2 ∨ m = 3 ∨ m = 4 ∨ m = 5 ∨ m = 6 ∨ m = 7 by omega) with rfl | rfl | rfl | rfl | rfl | rfl | rfl <;> simp at hk ⊢ <;> omega
      cases T with
      | zero => omega
      | succ T =>
        have ih := HC_low (k + 1) T L c h0 hp ((a, m - 1) :: (b, m2) :: A2) (by show m - 1 + (m2 + td A2) ≤ T; omega) (by rw [List.map_cons, List.map_cons]; exact ((f1.cons b).cons a).trans h1.symm) (fun q hq => by
          rcases List.mem_cons.mp hq with rfl | hq
          · show m - 1 ≤ 7; omega
          · rcases List.mem_cons.mp hq with rfl | hq
            · show m2 ≤ 7; omega
            · exact hA2 q hq) (by show 2 ^ (7 - (m - 1)) + kr ((b, m2) :: A2) ≤ 128; rw [ht]; exact hred)
        have e9 : cst ((a, m - 1) :: (b, m2) :: A2) = a * ((m : Int) - 1) + (b * (m2 : Int) + cst A2) := by
          show a * ((m - 1 : Nat) : Int) + _ = _
          rw [show ((m - 1 : Nat) : Int) = (m : Int) - 1 by omega]; rfl
        rw [e9, Int.mul_sub] at ih
        omega
termination_by k T => (k, T)
