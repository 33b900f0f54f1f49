-- ===== sets as bits =====
def anyI (P : Int → Bool) (n : Int) : Bool := foldI (fun k b => b || P k) false n
theorem anyI_0 {P : Int → Bool} : anyI P 0 = false := rfl
theorem anyI_s {P : Int → Bool} {n : Int} (h : 0 ≤ n) : anyI P (n + 1) = (anyI P n || P n) := foldI_s h
theorem anyI_iff {P : Int → Bool} {n : Int} : anyI P n = true ↔ ∃ k, 0 ≤ k ∧ k < n ∧ P k = true := by
  have key : ∀ m : Nat, anyI P m = true ↔ ∃ k : Int, 0 ≤ k ∧ k < m ∧ P k = true := by
    intro m
    induction m with
    | zero => exact ⟨fun h => by simp [anyI_0] at h, fun ⟨k, h1, h2, _⟩ => by omega⟩
    | succ m ih =>
      rw [show ((m + 1 : Nat) : Int) = (m : Int) + 1 by omega, anyI_s (by omega), Bool.or_eq_true, ih]
      constructor
      · rintro (⟨k, h1, h2, h3⟩ | h)
        · exact ⟨k, h1, by omega, h3⟩
        · exact ⟨m, by omega, by omega, h⟩
      · rintro ⟨k, h1, h2, h3⟩
        by_cases hk : k = m
        · subst hk; exact Or.inr h3
        · exact Or.inl ⟨k, h1, by omega, h3⟩
  by_cases h0 : 0 ≤ n
  · have := key n.toNat
    rwa [Int.toNat_of_nonneg h0] at this
  · constructor
    · intro h
      unfold anyI foldI at h
      rw [show n.toNat = 0 by omega] at h
      cases h
    · rintro ⟨k, h1, h2, _⟩; omega
def bset (P : Int → Bool) (n : Int) : Int := sumI (fun p => if P p = true then 2 ^ p.toNat else 0) n
theorem bset_0 {P : Int → Bool} : bset P 0 = 0 := rfl
theorem bset_s {P : Int → Bool} {n : Int} (h : 0 ≤ n) : bset P (n + 1) = bset P n + (if P n = true then 2 ^ n.toNat else 0) := sumI_s h
theorem two_pos (k : Nat) : (0 : Int) < 2 ^ k := Int.pow_pos (by omega)
theorem bset_bd {P : Int → Bool} (m : Nat) : 0 ≤ bset P m ∧ bset P m < 2 ^ m := by
  induction m with
  | zero => exact ⟨by simp [bset_0], by simp [bset_0]⟩
  | succ m ih =>
    rw [show ((m + 1 : Nat) : Int) = (m : Int) + 1 by omega, bset_s (by omega), Int.pow_succ, Int.toNat_natCast]
    have := two_pos m
    split <;> omega
theorem bset_bd' {P : Int → Bool} {n : Int} (h : 0 ≤ n) : 0 ≤ bset P n ∧ bset P n < 2 ^ n.toNat := by
  have := bset_bd (P := P) n.toNat
  rwa [Int.toNat_of_nonneg h] at this
theorem pow7 {n : Int} (h : 0 ≤ n ∧ n ≤ 7) : (1 : Int) ≤ 2 ^ n.toNat ∧ (2 : Int) ^ n.toNat ≤ 128 := by
  rcases (show n = 0 ∨ n = 1 ∨ n = 2 ∨ n = 3 ∨ n = 4 ∨ n = 5 ∨ n = 6 ∨ n = 7 by omega) with rfl | rfl | rfl | rfl | rfl | rfl | rfl | rfl <;> decide
theorem bset_127 {P : Int → Bool} {n : Int} (h : 0 ≤ n ∧ n ≤ 7) : 0 ≤ bset P n ∧ bset P n ≤ 127 := by
  have h1 := bset_bd' (P := P) h.1
  have h2 := pow7 h
  omega
theorem orI_pow {x p : Int} (hp : 0 ≤ p) (hx : 0 ≤ x ∧ x < 2 ^ p.toNat) : orI x (2 ^ p.toNat) = x + 2 ^ p.toNat := by
  obtain ⟨x, rfl⟩ := Int.eq_ofNat_of_zero_le hx.1
  have e : (2 : Int) ^ p.toNat = ((2 ^ p.toNat : Nat) : Int) := by simp
  rw [e] at hx ⊢
  have hlt : x < 2 ^ p.toNat := by omega
  unfold orI
  rw [Int.toNat_natCast, Int.toNat_natCast]
  have := Nat.two_pow_add_eq_or_of_lt hlt 1
  rw [Nat.mul_one] at this
  rw [Nat.or_comm, ← this]
  omega
theorem orI_zero {x : Int} (hx : 0 ≤ x) : orI x 0 = x := by
  unfold orI
  simp
  omega
theorem bset_or {P : Int → Bool} {n x : Int} (h : 0 ≤ n) (hx : x = if P n = true then 2 ^ n.toNat else 0) : orI (bset P n) x = bset P (n + 1) := by
  have hb := bset_bd' (P := P) h
  rw [bset_s h, hx]
  split
  · exact orI_pow h hb
  · rw [orI_zero hb.1, Int.add_zero]
theorem nb {x k : Nat} : (x.testBit k = true) ↔ bt (x : Int) (k : Int) = 1 := by
  rw [Nat.testBit_eq_decide_div_mod_eq, decide_eq_true_iff]
  unfold bt
  rw [Int.toNat_natCast]
  have e : ((x : Int) / 2 ^ k % 2 ^ 1) = ((x / 2 ^ k % 2 : Nat) : Int) := by
    rw [show (2 : Int) ^ k = ((2 ^ k : Nat) : Int) by simp, show (2 : Int) ^ 1 = ((2 : Nat) : Int) by decide]
    omega
  rw [e]
  omega
theorem bt_01 {x p : Int} : bt x p = 0 ∨ bt x p = 1 := by
  unfold bt
  rw [show (2 : Int) ^ 1 = 2 by decide]
  omega
theorem bset_bt {P : Int → Bool} {p : Int} (hp : 0 ≤ p) (m : Nat) (h : p < m) : bt (bset P m) p = 1 ↔ P p = true := by
  induction m with
  | zero => omega
  | succ m ih =>
    rw [show ((m + 1 : Nat) : Int) = (m : Int) + 1 by omega, bset_s (by omega), Int.toNat_natCast]
    have hb := bset_bd (P := P) m
    obtain ⟨q, rfl⟩ := Int.eq_ofNat_of_zero_le hp
    by_cases hq : q = m
    · subst hq
      unfold bt
      rw [Int.toNat_natCast]
      by_cases hP : P (q : Int) = true
      · rw [if_pos hP, show (bset P (q : Int) + 2 ^ q) / 2 ^ q = 1 by
          rw [Int.add_ediv_of_dvd_right (Int.dvd_refl _), Int.ediv_self (by have := two_pos q; omega), Int.ediv_eq_zero_of_lt hb.1 hb.2]; rfl]
        exact ⟨fun _ => hP, fun _ => by decide⟩
      · rw [if_neg hP, Int.add_zero, Int.ediv_eq_zero_of_lt hb.1 hb.2]
        exact ⟨fun h => by simp at h, fun h => absurd h hP⟩
    · have hlt : q < m := by omega
      rw [← ih (by omega)]
      have e : bt (bset P (m : Int) + (if P (m : Int) = true then 2 ^ m else 0)) (q : Int) = bt (bset P (m : Int)) (q : Int) := by
        split
        · unfold bt
          rw [Int.toNat_natCast]
          have hd : (2 : Int) ^ m = 2 ^ q * (2 * 2 ^ (m - q - 1)) := by
            rw [← Int.mul_assoc, ← Int.pow_succ, ← Int.pow_add]
            congr 1
            omega
          rw [hd, Int.add_mul_ediv_left _ _ (by have := two_pos q; omega)]
          rw [show (2 : Int) ^ 1 = 2 by decide, Int.add_mul_emod_self_left]
        · rw [Int.add_zero]
      rw [e]
theorem bset_bt' {P : Int → Bool} {n p : Int} (hp : 0 ≤ p ∧ p < n) : bt (bset P n) p = 1 ↔ P p = true := by
  have := bset_bt (P := P) hp.1 n.toNat (by omega)
  rwa [Int.toNat_of_nonneg (by omega)] at this
theorem bt_far {x : Int} {n p : Int} (hx : 0 ≤ x ∧ x < 2 ^ n.toNat) (hp : n ≤ p) (hn : 0 ≤ n) : bt x p = 0 := by
  unfold bt
  have h1 : (2 : Int) ^ n.toNat ≤ 2 ^ p.toNat := by
    have e1 : (2 : Int) ^ n.toNat = ((2 ^ n.toNat : Nat) : Int) := by simp
    have e2 : (2 : Int) ^ p.toNat = ((2 ^ p.toNat : Nat) : Int) := by simp
    rw [e1, e2]
    have := Nat.pow_le_pow_right (n := 2) (by omega) (show n.toNat ≤ p.toNat by omega)
    omega
  rw [Int.ediv_eq_zero_of_lt hx.1 (by omega)]
  rfl
theorem andI_ne {a b : Int} (ha : 0 ≤ a) (hb : 0 ≤ b) : ¬ andI a b = 0 ↔ ∃ p, 0 ≤ p ∧ bt a p = 1 ∧ bt b p = 1 := by
  obtain ⟨a, rfl⟩ := Int.eq_ofNat_of_zero_le ha
  obtain ⟨b, rfl⟩ := Int.eq_ofNat_of_zero_le hb
  unfold andI
  rw [Int.toNat_natCast, Int.toNat_natCast]
  constructor
  · intro h
    have h2 : a &&& b ≠ 0 := fun q => h (by rw [q]; rfl)
    obtain ⟨i, hi⟩ := Nat.exists_testBit_of_ne_zero h2
    rw [Nat.testBit_and, Bool.and_eq_true] at hi
    exact ⟨i, by omega, nb.mp hi.1, nb.mp hi.2⟩
  · rintro ⟨p, hp, h1, h2⟩ q
    obtain ⟨i, rfl⟩ := Int.eq_ofNat_of_zero_le hp
    have h3 : (a &&& b).testBit i = true := by rw [Nat.testBit_and, nb.mpr h1, nb.mpr h2]; rfl
    have h4 : a &&& b = 0 := by omega
    rw [h4] at h3
    simp at h3
def lds (D : Int → Int → Int) (p pace : Int) : Int := loud (D 0 p) (D 1 p) pace (D 6 1) (D 6 2)
def ratP (D : Int → Int → Int) (pace : Int) (p : Int) : Bool := decide (0 < lds D p pace)
def ratS (D : Int → Int → Int) (n pace : Int) : Int := bset (ratP D pace) n
def ratB (D : Int → Int → Int) (n set pace : Int) : Bool := anyI (fun p => decide (bt set p = 1) && ratP D pace p) n
theorem rat_and {D : Int → Int → Int} {n set pace : Int} (hn : 0 ≤ n) (hs : 0 ≤ set) : ¬ andI set (ratS D n pace) = 0 ↔ ratB D n set pace = true := by
  have hb := bset_bd' (P := ratP D pace) hn
  unfold ratS ratB
  rw [andI_ne hs hb.1, anyI_iff]
  constructor
  · rintro ⟨p, h0, h1, h2⟩
    have hlt : p < n := by
      rcases Int.lt_or_le p n with q | q
      · exact q
      · rw [bt_far hb q hn] at h2; cases h2
    exact ⟨p, h0, hlt, by rw [(bset_bt' ⟨h0, hlt⟩).mp h2]; simp [h1]⟩
  · rintro ⟨p, h0, hlt, h⟩
    rw [Bool.and_eq_true, decide_eq_true_iff] at h
    exact ⟨p, h0, h.1, (bset_bt' ⟨h0, hlt⟩).mpr h.2⟩
def toldP (D : Int → Int → Int) (n : Int) (E : Int → Int) (set k : Int) : Bool := decide ((ratB D n set (E (2 * k)) = true) ↔ E (2 * k + 1) = 1)
def toldB (D : Int → Int → Int) (n : Int) (E : Int → Int) (sz set : Int) : Bool := allI (toldP D n E set) (sz / 2)
theorem told_s {D : Int → Int → Int} {n : Int} {E : Int → Int} {set i : Int} (h0 : 0 ≤ i) (he : i % 2 = 0) (ha : allI (toldP D n E set) (i / 2) = true) (h : (ratB D n set (E i) = true) ↔ E (i + 1) = 1) : allI (toldP D n E set) ((i + 2) / 2) = true := by
  rw [show (i + 2) / 2 = i / 2 + 1 by omega, allI_s (by omega), ha, Bool.true_and]
  unfold toldP
  rw [show 2 * (i / 2) = i by omega]
  exact decide_eq_true h
theorem told_bad {D : Int → Int → Int} {n : Int} {E : Int → Int} {sz set i : Int} (h0 : 0 ≤ i ∧ i + 1 < sz) (he : i % 2 = 0) (h : ¬ ((ratB D n set (E i) = true) ↔ E (i + 1) = 1)) : ¬ toldB D n E sz set = true := by
  intro q
  have h2 := allI_iff.mp q (i / 2) (by omega) (by omega)
  unfold toldP at h2
  rw [show 2 * (i / 2) = i by omega] at h2
  exact h (of_decide_eq_true h2)
theorem told_ok {D : Int → Int → Int} {n : Int} {E : Int → Int} {sz set i : Int} (h0 : sz ≤ i + 1 ∧ i ≤ sz) (hz : sz % 2 = 0) (he : i % 2 = 0) (ha : allI (toldP D n E set) (i / 2) = true) : toldB D n E sz set = true := by
  unfold toldB; rw [show sz = i by omega]; exact ha
theorem pair_at {E : Int → Int} {sz i : Int} (hp : pairsB E sz = true) (h0 : 0 ≤ i ∧ i + 1 < sz) (he : i % 2 = 0) : (0 ≤ E i ∧ E i ≤ 99) ∧ (0 ≤ E (i + 1) ∧ E (i + 1) ≤ 1) := by
  unfold pairsB at hp
  rw [Bool.and_eq_true] at hp
  have h2 := allI_iff.mp hp.2 (i / 2) (by omega) (by omega)
  unfold pairP at h2
  rw [show 2 * (i / 2) = i by omega] at h2
  exact of_decide_eq_true h2
theorem pair_ev {E : Int → Int} {sz : Int} (hp : pairsB E sz = true) : sz % 2 = 0 := by
  unfold pairsB at hp
  rw [Bool.and_eq_true] at hp
  exact of_decide_eq_true hp.1
def pop (x : Int) : Int := sumI (fun k => bt x k) 7
def b1 (x : Int) : Int := x - andI (x / 2 ^ 1) 1431655765
def b2 (y : Int) : Int := andI y 858993459 + andI (y / 2 ^ 2) 858993459
def b3 (y : Int) : Int := andI (y + y / 2 ^ 4) 252645135
def b4 (y : Int) : Int := y + y / 2 ^ 8
def b5 (y : Int) : Int := y + y / 2 ^ 16
theorem pop_key : ∀ k : Nat, k < 128 → (0 ≤ b1 k ∧ b1 k ≤ 1000) ∧ (0 ≤ b2 (b1 k) ∧ b2 (b1 k) ≤ 1000) ∧ (0 ≤ b3 (b2 (b1 k)) ∧ b3 (b2 (b1 k)) ≤ 1000) ∧ (0 ≤ b4 (b3 (b2 (b1 k))) ∧ b4 (b3 (b2 (b1 k))) ≤ 1000) ∧ b5 (b4 (b3 (b2 (b1 k)))) % 2 ^ 6 = pop k := by decide +kernel
theorem pop_bd : ∀ k : Nat, k < 128 → 0 ≤ pop k ∧ pop k ≤ 7 := by decide +kernel
theorem pop_bd' {x : Int} (h : 0 ≤ x ∧ x ≤ 127) : 0 ≤ pop x ∧ pop x ≤ 7 := by
  have := pop_bd x.toNat (by omega)
  rwa [Int.toNat_of_nonneg h.1] at this
def freP (D : Int → Int → Int) (p : Int) : Bool := decide (D 4 p = 0)
def freS (D : Int → Int → Int) (n : Int) : Int := bset (freP D) n
def fthG (D : Int → Int → Int) (n : Int) (s b : Int) : Int := if andn s (freS D n) = 0 ∧ pop s < pop b ∧ sab D n s 0 (D 6 0) ≤ D 6 3 then s else b
def fth (D : Int → Int → Int) (n x : Int) : Int := foldI (fthG D n) (freS D n) x
def tsD (D : Int → Int → Int) (x : Int) (E : Int → Int) (so : Int) : Int → Int → Int := fun j p => if j = 4 ∧ (0 ≤ p ∧ p < x) ∧ ¬ E p = least so then E p else D j p
theorem tsD_0 {D : Int → Int → Int} {E : Int → Int} {so : Int} : tsD D 0 E so = D := by
  funext j p; unfold tsD; rw [if_neg (by omega)]
theorem tsD_far {D : Int → Int → Int} {E : Int → Int} {so i j p : Int} (hp : ¬ p = i) : tsD D i E so j p = tsD D (i + 1) E so j p := by
  unfold tsD
  by_cases h : j = 4 ∧ (0 ≤ p ∧ p < i) ∧ ¬ E p = least so
  · rw [if_pos h, if_pos (by omega)]
  · rw [if_neg h, if_neg (by omega)]
theorem tsD_s {D : Int → Int → Int} {E : Int → Int} {so i : Int} (hi : 0 ≤ i) (h : ¬ E i = least so) : upi (tsD D i E so 4) i (E i) = tsD D (i + 1) E so 4 := by
  funext p
  by_cases hp : p = i
  · subst hp; rw [upi_s]; unfold tsD; rw [if_pos (by omega)]
  · rw [upi_n hp, tsD_far hp]
theorem tsD_k {D : Int → Int → Int} {E : Int → Int} {so i : Int} (h : E i = least so) : tsD D i E so 4 = tsD D (i + 1) E so 4 := by
  funext p
  by_cases hp : p = i
  · subst hp; unfold tsD; rw [if_neg (by omega), if_neg (by omega)]
  · rw [tsD_far hp]
theorem tsD_o {D : Int → Int → Int} {E : Int → Int} {so x j : Int} (h : j ≠ 4) : tsD D x E so j = D j := by
  funext p; unfold tsD; rw [if_neg (by omega)]
