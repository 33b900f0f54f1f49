-- ===== lists of weights; the cost by halves, one by one =====
def lsum : List Int → Int
  | [] => 0
  | x :: l => x + lsum l
theorem lsum_app : ∀ (a b : List Int), lsum (a ++ b) = lsum a + lsum b
  | [], b => by show lsum b = 0 + lsum b; omega
  | x :: a, b => by
    show x + lsum (a ++ b) = x + lsum a + lsum b
    rw [lsum_app a b]; omega
theorem lsum_perm {a b : List Int} (h : a.Perm b) : lsum a = lsum b := by
  induction h with
  | nil => rfl
  | cons x _ ih => show x + lsum _ = x + lsum _; rw [ih]
  | swap x y l => show y + (x + lsum l) = x + (y + lsum l); omega
  | trans _ _ h1 h2 => exact h1.trans h2
def HC : Nat → List Int → Int → Prop
  | 0, L, c => (∃ x, L = [x]) ∧ c = 0
  | k + 1, L, c => ∃ a b R c', L.Perm (a :: b :: R) ∧ (a ≤ b ∧ ∀ x ∈ R, b ≤ x) ∧ HC k ((a + b) :: R) c' ∧ c = c' + (a + b)
def OB : Nat → List Int → Int → Prop
  | 0, L, c => (∃ x, L = [x]) ∧ c = 0
  | k + 1, L, c => ∃ a R c', L.Perm (a :: R) ∧ (∀ x ∈ R, x ≤ a) ∧ OB k R c' ∧ c = c' + lsum L
theorem HC_perm : ∀ {k : Nat} {L L' : List Int} {c : Int}, HC k L c → L.Perm L' → HC k L' c
  | 0, L, L', c, ⟨⟨x, hx⟩, hc⟩, h => by
    subst hx
    exact ⟨⟨x, List.singleton_perm.mp h |>.symm⟩, hc⟩
  | k + 1, L, L', c, ⟨a, b, R, c', h1, h2, h3, h4⟩, h => ⟨a, b, R, c', h.symm.trans h1, h2, h3, h4⟩
theorem OB_perm : ∀ {k : Nat} {L L' : List Int} {c : Int}, OB k L c → L.Perm L' → OB k L' c
  | 0, L, L', c, ⟨⟨x, hx⟩, hc⟩, h => by
    subst hx
    exact ⟨⟨x, List.singleton_perm.mp h |>.symm⟩, hc⟩
  | k + 1, L, L', c, ⟨a, R, c', h1, h2, h3, h4⟩, h => ⟨a, R, c', h.symm.trans h1, h2, h3, by rw [← lsum_perm h]; exact h4⟩
theorem min_uniq {a a' : Int} {R R' : List Int} (h : (a :: R).Perm (a' :: R')) (h1 : ∀ x ∈ R, a ≤ x) (h2 : ∀ x ∈ R', a' ≤ x) : a = a' ∧ R.Perm R' := by
  have e : a = a' := by
    have g1 : a ∈ a' :: R' := h.mem_iff.mp List.mem_cons_self
    have g2 : a' ∈ a :: R := h.mem_iff.mpr List.mem_cons_self
    rcases List.mem_cons.mp g1 with g1 | g1
    · exact g1
    · rcases List.mem_cons.mp g2 with g2 | g2
      · exact g2.symm
      · have := h2 _ g1; have := h1 _ g2; omega
  subst e
  exact ⟨rfl, h.cons_inv⟩
theorem max_uniq {a a' : Int} {R R' : List Int} (h : (a :: R).Perm (a' :: R')) (h1 : ∀ x ∈ R, x ≤ a) (h2 : ∀ x ∈ R', x ≤ a') : a = a' ∧ R.Perm R' := by
  have e : a = a' := by
    have g1 : a ∈ a' :: R' := h.mem_iff.mp List.mem_cons_self
    have g2 : a' ∈ a :: R := h.mem_iff.mpr List.mem_cons_self
    rcases List.mem_cons.mp g1 with g1 | g1
    · exact g1
    · rcases List.mem_cons.mp g2 with g2 | g2
      · exact g2.symm
      · have := h2 _ g1; have := h1 _ g2; omega
  subst e
  exact ⟨rfl, h.cons_inv⟩
theorem HC_uniq : ∀ {k : Nat} {L : List Int} {c d : Int}, HC k L c → HC k L d → c = d
  | 0, L, c, d, ⟨_, h1⟩, ⟨_, h2⟩ => by omega
  | k + 1, L, c, d, ⟨a, b, R, c', h1, h2, h3, h4⟩, ⟨a', b', R', d', g1, g2, g3, g4⟩ => by
    have q1 := min_uniq (h1.symm.trans g1) (fun x hx => by
      rcases List.mem_cons.mp hx with rfl | hx
      · exact h2.1
      · have := h2.2 x hx; omega) (fun x hx => by
      rcases List.mem_cons.mp hx with rfl | hx
      · exact g2.1
      · have := g2.2 x hx; omega)
    have q2 := min_uniq q1.2 h2.2 g2.2
    have e1 := q1.1
    have e2 := q2.1
    subst e1; subst e2
    have := HC_uniq h3 (HC_perm g3 (q2.2.symm.cons _))
    omega
theorem OB_uniq : ∀ {k : Nat} {L : List Int} {c d : Int}, OB k L c → OB k L d → c = d
  | 0, L, c, d, ⟨_, h1⟩, ⟨_, h2⟩ => by omega
  | k + 1, L, c, d, ⟨a, R, c', h1, h2, h3, h4⟩, ⟨a', R', d', g1, g2, g3, g4⟩ => by
    have q1 := max_uniq (h1.symm.trans g1) h2 g2
    have e1 := q1.1
    subst e1
    have := OB_uniq h3 (OB_perm g3 q1.2.symm)
    omega
theorem HC_pos : ∀ {k : Nat} {L : List Int} {c : Int}, HC k L c → (∀ x ∈ L, 0 ≤ x) → 0 ≤ c
  | 0, L, c, ⟨_, h1⟩, _ => by omega
  | k + 1, L, c, ⟨a, b, R, c', h1, h2, h3, h4⟩, h => by
    have ha := h a (h1.mem_iff.mpr List.mem_cons_self)
    have hb := h b (h1.mem_iff.mpr (List.mem_cons_of_mem _ List.mem_cons_self))
    have := HC_pos h3 (fun x hx => by
      rcases List.mem_cons.mp hx with rfl | hx
      · omega
      · exact h x (h1.mem_iff.mpr (List.mem_cons_of_mem _ (List.mem_cons_of_mem _ hx))))
    omega
noncomputable def the (P : Int → Prop) : Int := Classical.epsilon P
theorem the_eq {P : Int → Prop} {c : Int} (h : P c) (u : ∀ c', P c' → c' = c) : the P = c := u _ (Classical.epsilon_spec ⟨c, h⟩)
def wl (D : Int → Int → Int) (set i : Int) : List Int := foldI (fun p l => if bt set p = 1 then l ++ [D 3 p] else l) [] i
noncomputable def halV (D : Int → Int → Int) (n set : Int) : Int := the (fun c => HC ((wl D set n).length - 1) (wl D set n) c)
noncomputable def oboV (D : Int → Int → Int) (n set : Int) : Int := the (fun c => OB ((wl D set n).length - 1) (wl D set n) c)
theorem halV_eq {D : Int → Int → Int} {n set c : Int} (h : HC ((wl D set n).length - 1) (wl D set n) c) : halV D n set = c := the_eq h (fun c' h' => HC_uniq h' h)
theorem oboV_eq {D : Int → Int → Int} {n set c : Int} (h : OB ((wl D set n).length - 1) (wl D set n) c) : oboV D n set = c := the_eq h (fun c' h' => OB_uniq h' h)
theorem wl_s {D : Int → Int → Int} {set i : Int} (h : 0 ≤ i) : wl D set (i + 1) = if bt set i = 1 then wl D set i ++ [D 3 i] else wl D set i := foldI_s h
theorem wl_sum {D : Int → Int → Int} {set n : Int} (hn : 0 ≤ n) : lsum (wl D set n) = wts D n set := by
  have key : ∀ m : Nat, lsum (wl D set m) = wts D m set := by
    intro m
    induction m with
    | zero => rfl
    | succ m ih =>
      rw [show ((m + 1 : Nat) : Int) = (m : Int) + 1 by omega, wl_s (by omega)]
      unfold wts at ih ⊢
      rw [sumI_s (by omega), ← ih]
      split
      · rw [lsum_app]; show _ + (_ + 0) = _; omega
      · omega
  have := key n.toNat
  rwa [Int.toNat_of_nonneg hn] at this
theorem wl_mem {D : Int → Int → Int} {set n x : Int} (hn : 0 ≤ n) : x ∈ wl D set n ↔ ∃ p, (0 ≤ p ∧ p < n) ∧ bt set p = 1 ∧ D 3 p = x := by
  have key : ∀ m : Nat, x ∈ wl D set m ↔ ∃ p, (0 ≤ p ∧ p < (m : Int)) ∧ bt set p = 1 ∧ D 3 p = x := by
    intro m
    induction m with
    | zero => exact ⟨fun h => absurd h List.not_mem_nil, fun ⟨p, h, _⟩ => by omega⟩
    | succ m ih =>
      rw [show ((m + 1 : Nat) : Int) = (m : Int) + 1 by omega, wl_s (by omega)]
      split
      · rename_i hb
        rw [List.mem_append, ih, List.mem_singleton]
        constructor
        · rintro (⟨p, h1, h2⟩ | rfl)
          · exact ⟨p, by omega, h2⟩
          · exact ⟨m, by omega, hb, rfl⟩
        · rintro ⟨p, h1, h2, h3⟩
          by_cases hp : p = m
          · subst hp; exact Or.inr h3.symm
          · exact Or.inl ⟨p, by omega, h2, h3⟩
      · rename_i hb
        rw [ih]
        constructor
        · rintro ⟨p, h1, h2⟩
          exact ⟨p, by omega, h2⟩
        · rintro ⟨p, h1, h2, h3⟩
          by_cases hp : p = m
          · subst hp; exact absurd h2 hb
          · exact ⟨p, by omega, h2, h3⟩
  have := key n.toNat
  rwa [Int.toNat_of_nonneg hn] at this
theorem bit_ex {set n : Int} (hn : 0 ≤ n) (hs : 1 ≤ set ∧ set < 2 ^ n.toNat) : ∃ p, (0 ≤ p ∧ p < n) ∧ bt set p = 1 := by
  obtain ⟨s, rfl⟩ := Int.eq_ofNat_of_zero_le (show 0 ≤ set by omega)
  obtain ⟨i, hi⟩ := Nat.exists_testBit_of_ne_zero (show s ≠ 0 by omega)
  have h1 := nb.mp hi
  refine ⟨i, ⟨by omega, ?_⟩, h1⟩
  rcases Int.lt_or_le i n with h | h
  · exact h
  · rw [bt_far (by omega) h hn] at h1; cases h1
theorem wl_len {D : Int → Int → Int} {set n : Int} (hn : 0 ≤ n) (hs : 1 ≤ set ∧ set < 2 ^ n.toNat) : 1 ≤ (wl D set n).length := by
  obtain ⟨p, h1, h2⟩ := bit_ex hn hs
  exact List.length_pos_of_mem ((wl_mem hn).mpr ⟨p, h1, h2, rfl⟩)
theorem wl_le {D : Int → Int → Int} {set n : Int} (hn : 0 ≤ n) : ((wl D set n).length : Int) ≤ n := by
  have key : ∀ m : Nat, (wl D set m).length ≤ m := by
    intro m
    induction m with
    | zero => exact Nat.le_refl _
    | succ m ih =>
      rw [show ((m + 1 : Nat) : Int) = (m : Int) + 1 by omega, wl_s (by omega)]
      split
      · rw [List.length_append]; simp; omega
      · omega
  have := key n.toNat
  rw [Int.toNat_of_nonneg hn] at this
  omega
theorem wl_bd {D : Int → Int → Int} {set n mi : Int} (hB : CarOK D n mi) : ∀ x ∈ wl D set n, 0 ≤ x ∧ x ≤ 9 := by
  intro x hx
  obtain ⟨hn, hD, -⟩ := hB
  obtain ⟨p, h1, h2, h3⟩ := (wl_mem hn.1).mp hx
  have := hD p h1.1 (by omega)
  omega
-- ===== the pool =====
def pls (Q : Int → Int) (m : Int) : List Int := (List.range m.toNat).map (fun k : Nat => Q (k : Int))
theorem pls_0 {Q : Int → Int} : pls Q 0 = [] := rfl
theorem pls_s {Q : Int → Int} {m : Int} (h : 0 ≤ m) : pls Q (m + 1) = pls Q m ++ [Q m] := by
  unfold pls
  rw [show (m + 1).toNat = m.toNat + 1 by omega, List.range_succ, List.map_append, List.map_singleton, Int.toNat_of_nonneg h]
theorem pls_congr {Q R : Int → Int} {m : Int} (h : ∀ j, 0 ≤ j → j < m → Q j = R j) : pls Q m = pls R m := by
  unfold pls
  apply List.map_congr_left
  intro k hk
  have := List.mem_range.mp hk
  exact h k (by omega) (by omega)
theorem pls_mem {Q : Int → Int} {m x : Int} : x ∈ pls Q m ↔ ∃ j, (0 ≤ j ∧ j < m) ∧ Q j = x := by
  unfold pls
  rw [List.mem_map]
  constructor
  · rintro ⟨k, hk, rfl⟩
    have := List.mem_range.mp hk
    exact ⟨k, by omega, rfl⟩
  · rintro ⟨j, h, rfl⟩
    exact ⟨j.toNat, List.mem_range.mpr (by omega), by rw [Int.toNat_of_nonneg h.1]⟩
theorem pls_len {Q : Int → Int} {m : Int} : (pls Q m).length = m.toNat := by unfold pls; simp
def swp (Q : Int → Int) (i : Int) : Int → Int := upi (upi Q (i - 1) (Q i)) i (Q (i - 1))
def bubH (g : Int) (k : Int) (Q : Int → Int) : Int → Int := if g * Q k < g * Q (k + 1) then swp Q (k + 1) else Q
def bub (g : Int) (Q : Int → Int) (m : Int) : Int → Int := foldI (bubH g) Q (m - 1)
theorem bub_key (g : Int) (Q : Int → Int) (k : Nat) : (pls (foldI (bubH g) Q k) (k + 1)).Perm (pls Q (k + 1)) ∧ (∀ j : Int, (k : Int) < j → foldI (bubH g) Q k j = Q j) ∧ ∀ j : Int, 0 ≤ j → j ≤ k → g * foldI (bubH g) Q k k ≤ g * foldI (bubH g) Q k j := by
  induction k with
  | zero =>
    refine ⟨List.Perm.refl _, fun j _ => rfl, fun j h1 h2 => ?_⟩
    have e : j = ((0 : Nat) : Int) := by omega
    subst e
    exact Int.le_refl _
  | succ k ih =>
    obtain ⟨i1, i2, i3⟩ := ih
    rw [show ((k + 1 : Nat) : Int) = (k : Int) + 1 by omega, foldI_s (by omega)]
    generalize foldI (bubH g) Q (k : Int) = R at i1 i2 i3 ⊢
    have e1 := i2 ((k : Int) + 1) (by omega)
    unfold bubH
    split
    · rename_i hlt
      have es : ∀ j : Int, swp R ((k : Int) + 1) j = if j = (k : Int) + 1 then R k else if j = k then R ((k : Int) + 1) else R j := by
        intro j
        unfold swp upi
        rw [show (k : Int) + 1 - 1 = k by omega]
      refine ⟨?_, fun j hj => ?_, fun j h1 h2 => ?_⟩
      · have c1 : pls (swp R ((k : Int) + 1)) k = pls R k := pls_congr (fun j g1 g2 => by rw [es, if_neg (by omega), if_neg (by omega)])
        rw [pls_s (by omega), pls_s (m := (k : Int)) (by omega), c1, es, es, if_neg (by omega), if_pos rfl, if_pos rfl, pls_s (m := (k : Int) + 1) (by omega), List.append_assoc]
        rw [pls_s (m := (k : Int)) (by omega)] at i1
        refine List.Perm.trans (List.Perm.append_left _ (List.Perm.swap _ _ [])) ?_
        show (pls R k ++ ([R k] ++ [R ((k : Int) + 1)])).Perm _
        rw [← List.append_assoc, e1]
        exact i1.append_right _
      · rw [es, if_neg (by omega), if_neg (by omega)]; exact i2 j (by omega)
      · rw [es, es, if_pos rfl]
        by_cases g1 : j = (k : Int) + 1
        · rw [if_pos g1]; exact Int.le_refl _
        · rw [if_neg g1]
          by_cases g2 : j = k
          · rw [if_pos g2]; omega
          · rw [if_neg g2]; exact i3 j h1 (by omega)
    · rename_i hlt
      refine ⟨?_, fun j hj => i2 j (by omega), fun j h1 h2 => ?_⟩
      · rw [pls_s (m := (k : Int) + 1) (by omega), pls_s (Q := Q) (m := (k : Int) + 1) (by omega), e1]
        exact i1.append_right _
      · by_cases g1 : j = (k : Int) + 1
        · subst g1; exact Int.le_refl _
        · have := i3 j h1 (by omega)
          omega
theorem bub_ok {g : Int} {Q : Int → Int} {m : Int} (h : 1 ≤ m) : (pls (bub g Q m) m).Perm (pls Q m) ∧ (∀ j, m ≤ j → bub g Q m j = Q j) ∧ ∀ j, 0 ≤ j → j < m → g * bub g Q m (m - 1) ≤ g * bub g Q m j := by
  have := bub_key g Q (m - 1).toNat
  rw [Int.toNat_of_nonneg (by omega), show m - 1 + 1 = m by omega] at this
  obtain ⟨h1, h2, h3⟩ := this
  exact ⟨h1, fun j hj => h2 j (by omega), fun j g1 g2 => h3 j g1 (by omega)⟩
theorem bub_bd {g : Int} {Q : Int → Int} {m lo hi : Int} (h : 1 ≤ m) (hb : ∀ x ∈ pls Q m, lo ≤ x ∧ x ≤ hi) : ∀ x ∈ pls (bub g Q m) m, lo ≤ x ∧ x ≤ hi := fun x hx => hb x ((bub_ok h).1.mem_iff.mp hx)
/-- the pool behind one joining -/
def joi (Q : Int → Int) (m : Int) : Int → Int := upi (bub 1 (bub 1 Q m) (m - 1)) (m - 2) ((bub 1 (bub 1 Q m) (m - 1)) (m - 2) + (bub 1 (bub 1 Q m) (m - 1)) (m - 1))
theorem joi_ok {Q : Int → Int} {m : Int} (h : 2 ≤ m) : ∃ a b R, (pls Q m).Perm (a :: b :: R) ∧ (a ≤ b ∧ ∀ x ∈ R, b ≤ x) ∧ (pls (joi Q m) (m - 1)).Perm ((a + b) :: R) ∧ joi Q m (m - 2) = a + b := by
  obtain ⟨a1, a2, a3⟩ := bub_ok (g := 1) (Q := Q) (m := m) (by omega)
  obtain ⟨b1, b2, b3⟩ := bub_ok (g := 1) (Q := bub 1 Q m) (m := m - 1) (by omega)
  have e1 := b2 (m - 1) (by omega)
  have ej : joi Q m (m - 2) = (bub 1 (bub 1 Q m) (m - 1)) (m - 2) + (bub 1 (bub 1 Q m) (m - 1)) (m - 1) := upi_s
  have ec : pls (joi Q m) (m - 2) = pls (bub 1 (bub 1 Q m) (m - 1)) (m - 2) := pls_congr (fun j g1 g2 => upi_n (by omega))
  have e2 : pls (joi Q m) (m - 1) = pls (joi Q m) (m - 2) ++ [joi Q m (m - 2)] := by
    have := pls_s (Q := joi Q m) (m := m - 2) (by omega)
    rwa [show m - 2 + 1 = m - 1 by omega] at this
  have e3 : pls (bub 1 (bub 1 Q m) (m - 1)) (m - 1) = pls (bub 1 (bub 1 Q m) (m - 1)) (m - 2) ++ [(bub 1 (bub 1 Q m) (m - 1)) (m - 2)] := by
    have := pls_s (Q := bub 1 (bub 1 Q m) (m - 1)) (m := m - 2) (by omega)
    rwa [show m - 2 + 1 = m - 1 by omega] at this
  have e4 : pls (bub 1 Q m) m = pls (bub 1 Q m) (m - 1) ++ [bub 1 Q m (m - 1)] := by
    have := pls_s (Q := bub 1 Q m) (m := m - 1) (by omega)
    rwa [show m - 1 + 1 = m by omega] at this
  refine ⟨bub 1 Q m (m - 1), (bub 1 (bub 1 Q m) (m - 1)) (m - 2), pls (bub 1 (bub 1 Q m) (m - 1)) (m - 2), ?_, ⟨?_, fun x hx => ?_⟩, ?_, by rw [ej, e1]; omega⟩
  · refine a1.symm.trans ?_
    rw [e4]
    refine List.perm_append_comm.trans (List.Perm.cons _ ?_)
    refine b1.symm.trans ?_
    rw [e3]
    exact List.perm_append_comm
  · have hm : (bub 1 (bub 1 Q m) (m - 1)) (m - 2) ∈ pls (bub 1 Q m) (m - 1) := b1.mem_iff.mp (pls_mem.mpr ⟨m - 2, by omega, rfl⟩)
    obtain ⟨j, hj, e⟩ := pls_mem.mp hm
    have := a3 j hj.1 (by omega)
    omega
  · obtain ⟨j, hj, e⟩ := pls_mem.mp hx
    have := b3 j hj.1 (by omega)
    rw [show m - 1 - 1 = m - 2 by omega] at this
    omega
  · rw [e2, ec, ej, e1, Int.add_comm (bub 1 Q m (m - 1))]
    exact List.perm_append_comm
theorem joi_HC {Q : Int → Int} {m c : Int} (h : 2 ≤ m) (hc : HC (m - 2).toNat (pls (joi Q m) (m - 1)) c) : HC (m - 1).toNat (pls Q m) (c + joi Q m (m - 2)) := by
  obtain ⟨a, b, R, h1, h2, h3, h4⟩ := joi_ok (Q := Q) h
  rw [show (m - 1).toNat = (m - 2).toNat + 1 by omega]
  exact ⟨a, b, R, c, h1, h2, HC_perm hc h3, by rw [h4]⟩
theorem joi_bd {Q : Int → Int} {m B : Int} (h : 2 ≤ m) (hb : ∀ x ∈ pls Q m, 0 ≤ x ∧ x ≤ B) : (∀ x ∈ pls (joi Q m) (m - 1), 0 ≤ x ∧ x ≤ 2 * B) ∧ 0 ≤ joi Q m (m - 2) ∧ joi Q m (m - 2) ≤ 2 * B := by
  obtain ⟨a, b, R, h1, h2, h3, h4⟩ := joi_ok (Q := Q) h
  have ha := hb a (h1.mem_iff.mpr List.mem_cons_self)
  have hb2 := hb b (h1.mem_iff.mpr (List.mem_cons_of_mem _ List.mem_cons_self))
  refine ⟨fun x hx => ?_, by omega⟩
  rcases List.mem_cons.mp (h3.mem_iff.mp hx) with rfl | hx
  · omega
  · have := hb x (h1.mem_iff.mpr (List.mem_cons_of_mem _ (List.mem_cons_of_mem _ hx)))
    omega
theorem obo_ok {Q : Int → Int} {m c : Int} (h : 2 ≤ m) (hc : OB (m - 2).toNat (pls (bub (-1) Q m) (m - 1)) c) : OB (m - 1).toNat (pls Q m) (c + lsum (pls Q m)) ∧ lsum (pls (bub (-1) Q m) (m - 1)) = lsum (pls Q m) - bub (-1) Q m (m - 1) := by
  obtain ⟨a1, a2, a3⟩ := bub_ok (g := -1) (Q := Q) (m := m) (by omega)
  have e4 : pls (bub (-1) Q m) m = pls (bub (-1) Q m) (m - 1) ++ [bub (-1) Q m (m - 1)] := by
    have := pls_s (Q := bub (-1) Q m) (m := m - 1) (by omega)
    rwa [show m - 1 + 1 = m by omega] at this
  constructor
  · rw [show (m - 1).toNat = (m - 2).toNat + 1 by omega]
    refine ⟨bub (-1) Q m (m - 1), pls (bub (-1) Q m) (m - 1), c, ?_, fun x hx => ?_, hc, rfl⟩
    · refine a1.symm.trans ?_
      rw [e4]
      exact List.perm_append_comm
    · obtain ⟨j, hj, e⟩ := pls_mem.mp hx
      have := a3 j hj.1 (by omega)
      omega
  · rw [← lsum_perm a1, e4, lsum_app]
    show _ = _ + (_ + 0) - _
    omega
def filF (D : Int → Int → Int) (set : Int) (Q : Int → Int) (i : Int) : Int × (Int → Int) := foldI (fun p x => if bt set p = 1 then (x.1 + 1, upi x.2 x.1 (D 3 p)) else x) (0, Q) i
theorem fil_s {D : Int → Int → Int} {set i : Int} {Q : Int → Int} (h : 0 ≤ i) : filF D set Q (i + 1) = if bt set i = 1 then ((filF D set Q i).1 + 1, upi (filF D set Q i).2 (filF D set Q i).1 (D 3 i)) else filF D set Q i := foldI_s h
theorem fil_ok {D : Int → Int → Int} {set i : Int} {Q : Int → Int} (h : 0 ≤ i) : pls (filF D set Q i).2 (filF D set Q i).1 = wl D set i ∧ 0 ≤ (filF D set Q i).1 ∧ (filF D set Q i).1 ≤ i := by
  have key : ∀ m : Nat, pls (filF D set Q m).2 (filF D set Q m).1 = wl D set m ∧ 0 ≤ (filF D set Q m).1 ∧ (filF D set Q m).1 ≤ m := by
    intro m
    induction m with
    | zero => exact ⟨rfl, Int.le_refl _, Int.le_refl _⟩
    | succ m ih =>
      obtain ⟨i1, i2, i3⟩ := ih
      rw [show ((m + 1 : Nat) : Int) = (m : Int) + 1 by omega, wl_s (by omega), fil_s (by omega)]
      generalize filF D set Q (m : Int) = x at i1 i2 i3 ⊢
      split
      · refine ⟨?_, by show 0 ≤ x.1 + 1; omega, by show x.1 + 1 ≤ _; omega⟩
        show pls (upi x.2 x.1 (D 3 m)) (x.1 + 1) = _
        rw [pls_s i2, upi_s, ← i1]
        congr 1
        exact pls_congr (fun j g1 g2 => upi_n (by omega))
      · exact ⟨i1, i2, by omega⟩
  have := key i.toNat
  rwa [Int.toNat_of_nonneg h] at this
theorem fil_len {D : Int → Int → Int} {set i : Int} {Q : Int → Int} (h : 0 ≤ i) : ((wl D set i).length : Int) = (filF D set Q i).1 := by
  obtain ⟨h1, h2, h3⟩ := fil_ok (D := D) (set := set) (Q := Q) h
  rw [← h1, pls_len]; omega
def bB (m : Int) : Int := if m = 7 then 9 else if m = 6 then 18 else if m = 5 then 36 else if m = 4 then 72 else if m = 3 then 144 else if m = 2 then 288 else 576
theorem bB_s {m : Int} (h : 2 ≤ m ∧ m ≤ 7) : 2 * bB m = bB (m - 1) := by
  rcases (show m = 2 ∨ m = 3 ∨ m = 4 ∨ m = 5 ∨ m = 6 ∨ m = 7 by omega) with rfl | rfl | rfl | rfl | rfl | rfl <;> decide
theorem bB_bd {m : Int} : 9 ≤ bB m ∧ bB m ≤ 576 := by unfold bB; (repeat' split) <;> omega
def halvesA' (v w p : Int) : Int := lowT v w p
