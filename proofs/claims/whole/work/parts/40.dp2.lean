-- ===== the table by subsets =====
theorem nat_sub128 : ∀ k, k < 128 → ∀ a, a < 128 → (a ^^^ (a &&& k)) = 0 → a + (k ^^^ (k &&& a)) = k := by decide +kernel
theorem andn_add {a k : Int} (ha : 0 ≤ a ∧ a ≤ 127) (hk : 0 ≤ k ∧ k ≤ 127) (h : andn a k = 0) : a + andn k a = k := by
  have h1 := nat_sub128 k.toNat (by omega) a.toNat (by omega) (by unfold andn at h; omega)
  unfold andn; omega
theorem pop_pow {p : Int} (hp : 0 ≤ p ∧ p < 7) : pop (2 ^ p.toNat) = 1 := by
  rcases (show p = 0 ∨ p = 1 ∨ p = 2 ∨ p = 3 ∨ p = 4 ∨ p = 5 ∨ p = 6 by omega) with rfl | rfl | rfl | rfl | rfl | rfl | rfl <;> decide
theorem pw64 {p : Int} (hp : 0 ≤ p ∧ p < 7) : 1 ≤ (2 : Int) ^ p.toNat ∧ (2 : Int) ^ p.toNat ≤ 64 := by
  rcases (show p = 0 ∨ p = 1 ∨ p = 2 ∨ p = 3 ∨ p = 4 ∨ p = 5 ∨ p = 6 by omega) with rfl | rfl | rfl | rfl | rfl | rfl | rfl <;> decide
theorem bits7 {a b : Int} (ha : 0 ≤ a ∧ a ≤ 127) (hb : 0 ≤ b ∧ b ≤ 127) (h : ∀ p, 0 ≤ p → p < 7 → (bt a p = 1 ↔ bt b p = 1)) : a = b := by
  have e : (2 : Int) ^ (Int.toNat 7) = 128 := by decide
  exact fb_eq (n := 7) (by omega) (by omega) (by omega) h
theorem bit7 {a : Int} (ha : 1 ≤ a ∧ a ≤ 127) : ∃ p, (0 ≤ p ∧ p < 7) ∧ bt a p = 1 := by
  have e : (2 : Int) ^ (Int.toNat 7) = 128 := by decide
  exact bit_ex (n := 7) (by omega) (by omega)
theorem sub_bt {a k p : Int} (ha : 0 ≤ a) (hk : 0 ≤ k) (h : andn a k = 0) (hp : 0 ≤ p) (hb : bt a p = 1) : bt k p = 1 := by
  rcases bt_01 (x := k) (p := p) with h1 | h1
  · exfalso
    have := (bt_andn ha hk hp).mpr ⟨hb, by omega⟩
    rw [h] at this
    have e : bt 0 p = 0 := by unfold bt; rw [Int.zero_ediv]; rfl
    omega
  · exact h1
theorem sub_of {a k : Int} (ha : 0 ≤ a ∧ a ≤ 127) (hk : 0 ≤ k) (h : ∀ p, 0 ≤ p → p < 7 → bt a p = 1 → bt k p = 1) : andn a k = 0 := by
  have hl := andn_le (a := a) (b := k) ha.1
  refine bits7 (by omega) (by omega) fun p h1 h2 => ?_
  rw [bt_andn ha.1 hk h1]
  have e : bt 0 p = 0 := by unfold bt; rw [Int.zero_ediv]; rfl
  constructor
  · intro q; exact absurd (h p h1 h2 q.1) q.2
  · intro q; omega
theorem sub_tr {a k s : Int} (ha : 0 ≤ a ∧ a ≤ 127) (hk : 0 ≤ k) (hs : 0 ≤ s) (h1 : andn a k = 0) (h2 : andn k s = 0) : andn a s = 0 :=
  sub_of ha hs fun p g1 _ g3 => sub_bt hk hs h2 g1 (sub_bt ha.1 hk h1 g1 g3)
theorem andn_sub {a k : Int} (ha : 0 ≤ a) (hk : 0 ≤ k ∧ k ≤ 127) : andn (andn k a) k = 0 := by
  have hl := andn_le (a := k) (b := a) hk.1
  exact sub_of (by omega) hk.1 fun p g1 _ g3 => ((bt_andn hk.1 ha g1).mp g3).1
/-- the bits of j are those of a and of b -/
def bsum (j a b : Int) : Prop := ∀ p, 0 ≤ p → p < 7 → bt j p = bt a p + bt b p
theorem bsum_of {a k : Int} (ha : 0 ≤ a) (hk : 0 ≤ k) (h : andn a k = 0) : bsum k a (andn k a) := by
  intro p h1 h2
  have e1 := bt_andn (a := k) (b := a) hk ha h1
  have e2 := sub_bt (p := p) ha hk h h1
  have r1 := bt_01 (x := k) (p := p)
  have r2 := bt_01 (x := a) (p := p)
  have r3 := bt_01 (x := andn k a) (p := p)
  by_cases c1 : bt a p = 1
  · have := e2 c1
    have : ¬ bt (andn k a) p = 1 := fun q => (e1.mp q).2 c1
    omega
  · by_cases c2 : bt k p = 1
    · have := e1.mpr ⟨c2, c1⟩; omega
    · have : ¬ bt (andn k a) p = 1 := fun q => c2 (e1.mp q).1
      omega
theorem pop_add {j a b : Int} (h : bsum j a b) : pop j = pop a + pop b := by
  unfold pop
  rw [← sumI_add (by omega)]
  exact sumI_congr (fun p h1 h2 => h p h1 h2)
theorem wts_add {D : Int → Int → Int} {n j a b : Int} (hn : 0 ≤ n ∧ n ≤ 7) (h : bsum j a b) : wts D n j = wts D n a + wts D n b := by
  unfold wts
  rw [← sumI_add hn.1]
  apply sumI_congr
  intro p h1 h2
  have e := h p h1 (by omega)
  have r1 := bt_01 (x := j) (p := p)
  have r2 := bt_01 (x := a) (p := p)
  have r3 := bt_01 (x := b) (p := p)
  by_cases c1 : bt a p = 1
  · rw [if_pos (show bt j p = 1 by omega), if_pos c1, if_neg (show ¬ bt b p = 1 by omega)]; omega
  · by_cases c2 : bt b p = 1
    · rw [if_pos (show bt j p = 1 by omega), if_neg c1, if_pos c2]; omega
    · rw [if_neg (show ¬ bt j p = 1 by omega), if_neg c1, if_neg c2]; omega
theorem pop_ge1 {a : Int} (ha : 1 ≤ a ∧ a ≤ 127) : 1 ≤ pop a := by
  obtain ⟨p, hp, hb⟩ := bit7 ha
  have hb2 : bsum a (2 ^ p.toNat) (andn a (2 ^ p.toNat)) := by
    have h6 := pw64 hp
    refine bsum_of (by omega) (by omega) (sub_of (by omega) (by omega) fun q g1 g2 g3 => ?_)
    rw [bt_pow hp.1 g1] at g3
    rw [g3]; exact hb
  have h1 := pop_add hb2
  rw [pop_pow hp] at h1
  have hl := andn_le (a := a) (b := 2 ^ p.toNat) (by omega)
  have := pop_bd' (x := andn a (2 ^ p.toNat)) (by omega)
  omega
def KA (D : Int → Int → Int) (n j c : Int) : Prop := ∃ dep : Int → Nat, (∀ p, 0 ≤ p → p < n → bt j p = 1 → (dep p : Int) + 1 ≤ pop j) ∧ sumI (fun p => if bt j p = 1 then 2 ^ (7 - dep p) else 0) n ≤ 128 ∧ sumI (fun p => if bt j p = 1 then D 3 p * (dep p : Int) else 0) n = c
theorem sumI_mono {f g : Int → Int} {n : Int} (hn : 0 ≤ n) (h : ∀ k, 0 ≤ k → k < n → f k ≤ g k) : sumI f n ≤ sumI g n := by
  have key : ∀ m : Nat, (m : Int) ≤ n → sumI f m ≤ sumI g m := by
    intro m
    induction m with
    | zero => intro _; exact Int.le_refl _
    | succ m ih =>
      intro hm
      rw [show ((m + 1 : Nat) : Int) = (m : Int) + 1 by omega, sumI_s (by omega), sumI_s (by omega)]
      have := ih (by omega)
      have := h m (by omega) (by omega)
      omega
  have := key n.toNat (by omega)
  rwa [Int.toNat_of_nonneg hn] at this
theorem sumI_ext {f : Int → Int} {n m : Int} (hn : 0 ≤ n ∧ n ≤ m) (h : ∀ k, n ≤ k → k < m → 0 ≤ f k) : sumI f n ≤ sumI f m := by
  have key : ∀ i : Nat, n + i ≤ m → sumI f n ≤ sumI f (n + i) := by
    intro i
    induction i with
    | zero => intro _; rw [show n + ((0 : Nat) : Int) = n by omega]; exact Int.le_refl _
    | succ i ih =>
      intro hm
      rw [show n + ((i + 1 : Nat) : Int) = (n + i) + 1 by omega, sumI_s (by omega)]
      have := ih (by omega)
      have := h (n + i) (by omega) (by omega)
      omega
  have := key (m - n).toNat (by omega)
  rwa [show n + ((m - n).toNat : Int) = m by omega] at this
theorem sumI_mul {f : Int → Int} {c n : Int} (hn : 0 ≤ n) : sumI (fun k => c * f k) n = c * sumI f n := by
  have key : ∀ m : Nat, sumI (fun k => c * f k) m = c * sumI f m := by
    intro m
    induction m with
    | zero => show (0 : Int) = c * 0; omega
    | succ m ih => rw [show ((m + 1 : Nat) : Int) = (m : Int) + 1 by omega, sumI_s (by omega), sumI_s (by omega), ih, Int.mul_add]
  have := key n.toNat
  rwa [Int.toNat_of_nonneg hn] at this
theorem KA_one {D : Int → Int → Int} {n j : Int} (hn : 0 ≤ n ∧ n ≤ 7) (h : pop j = 1) : KA D n j 0 := by
  refine ⟨fun _ => 0, fun p _ _ _ => by simp [h], ?_, ?_⟩
  · have h1 : sumI (fun p => if bt j p = 1 then (2 : Int) ^ (7 - 0) else 0) n = 128 * sumI (fun p => bt j p) n := by
      rw [← sumI_mul hn.1]
      apply sumI_congr
      intro p _ _
      have := bt_01 (x := j) (p := p)
      by_cases c : bt j p = 1
      · rw [if_pos c, c]; rfl
      · rw [if_neg c, show bt j p = 0 by omega]; rfl
    have h2 : sumI (fun p => bt j p) n ≤ pop j := sumI_ext ⟨hn.1, hn.2⟩ (fun k _ _ => by have := bt_01 (x := j) (p := k); omega)
    rw [h1]; omega
  · have : sumI (fun p => if bt j p = 1 then D 3 p * ((0 : Nat) : Int) else 0) n = sumI (fun _ => 0 * (0 : Int)) n := by
      apply sumI_congr
      intro p _ _
      split <;> simp
    rw [this, sumI_mul hn.1, Int.zero_mul]
theorem KA_join {D : Int → Int → Int} {n j a b c d : Int} (hn : 0 ≤ n ∧ n ≤ 7) (hs : bsum j a b) (ha : 1 ≤ pop a) (hb : 1 ≤ pop b) (hj : pop j ≤ 7) (h1 : KA D n a c) (h2 : KA D n b d) : KA D n j (c + d + wts D n j) := by
  obtain ⟨x, x1, x2, x3⟩ := h1
  obtain ⟨y, y1, y2, y3⟩ := h2
  have hp := pop_add hs
  have cs : ∀ p, 0 ≤ p → p < n → (bt a p = 1 ∧ bt b p = 0 ∧ bt j p = 1 ∧ (x p : Int) + 1 ≤ pop a) ∨ (bt a p = 0 ∧ bt b p = 1 ∧ bt j p = 1 ∧ (y p : Int) + 1 ≤ pop b) ∨ (bt a p = 0 ∧ bt b p = 0 ∧ bt j p = 0) := by
    intro p g1 g2
    have e := hs p g1 (by omega)
    have r1 := bt_01 (x := j) (p := p)
    have r2 := bt_01 (x := a) (p := p)
    have r3 := bt_01 (x := b) (p := p)
    by_cases c1 : bt a p = 1
    · have := x1 p g1 g2 c1
      exact Or.inl ⟨c1, by omega, by omega, this⟩
    · by_cases c2 : bt b p = 1
      · have := y1 p g1 g2 c2
        exact Or.inr (Or.inl ⟨by omega, c2, by omega, this⟩)
      · exact Or.inr (Or.inr ⟨by omega, by omega, by omega⟩)
  obtain ⟨z, hz⟩ : ∃ z : Int → Nat, ∀ p, z p = (if bt a p = 1 then x p else y p) + 1 := ⟨_, fun _ => rfl⟩
  refine ⟨z, fun p g1 g2 g3 => ?_, ?_, ?_⟩
  · rcases cs p g1 g2 with ⟨q1, q2, q3, q4⟩ | ⟨q1, q2, q3, q4⟩ | ⟨q1, q2, q3⟩
    · rw [hz, if_pos q1]; omega
    · rw [hz, if_neg (show ¬ bt a p = 1 by omega)]; omega
    · omega
  · have e : sumI (fun p => 2 * (if bt j p = 1 then 2 ^ (7 - z p) else 0)) n = sumI (fun p => (if bt a p = 1 then 2 ^ (7 - x p) else 0) + (if bt b p = 1 then 2 ^ (7 - y p) else 0)) n := by
      apply sumI_congr
      intro p g1 g2
      rcases cs p g1 g2 with ⟨q1, q2, q3, q4⟩ | ⟨q1, q2, q3, q4⟩ | ⟨q1, q2, q3⟩
      · rw [if_pos q3, hz, if_pos q1, if_pos q1, if_neg (show ¬ bt b p = 1 by omega), Int.add_zero, show 7 - x p = (7 - (x p + 1)) + 1 by omega, Int.pow_succ]; omega
      · rw [if_pos q3, hz, if_neg (show ¬ bt a p = 1 by omega), if_neg (show ¬ bt a p = 1 by omega), if_pos q2, Int.zero_add, show 7 - y p = (7 - (y p + 1)) + 1 by omega, Int.pow_succ]; omega
      · rw [if_neg (show ¬ bt j p = 1 by omega), if_neg (show ¬ bt a p = 1 by omega), if_neg (show ¬ bt b p = 1 by omega)]; rfl
    rw [sumI_mul hn.1, sumI_add hn.1] at e
    omega
  · rw [← x3, ← y3]
    unfold wts
    rw [← sumI_add hn.1, ← sumI_add hn.1]
    apply sumI_congr
    intro p g1 g2
    rcases cs p g1 g2 with ⟨q1, q2, q3, q4⟩ | ⟨q1, q2, q3, q4⟩ | ⟨q1, q2, q3⟩
    · rw [if_pos q3, hz, if_pos q1, if_pos q1, if_neg (show ¬ bt b p = 1 by omega), if_pos q3, Int.natCast_add, Int.mul_add]; omega
    · rw [if_pos q3, hz, if_neg (show ¬ bt a p = 1 by omega), if_neg (show ¬ bt a p = 1 by omega), if_pos q2, if_pos q3, Int.natCast_add, Int.mul_add]; omega
    · rw [if_neg (show ¬ bt j p = 1 by omega), if_neg (show ¬ bt a p = 1 by omega), if_neg (show ¬ bt b p = 1 by omega), if_neg (show ¬ bt j p = 1 by omega)]; rfl
-- a depth function as a list
def al (D : Int → Int → Int) (j : Int) (dep : Int → Nat) (i : Int) : List (Int × Nat) := foldI (fun p l => if bt j p = 1 then l ++ [(D 3 p, dep p)] else l) [] i
theorem cst_app : ∀ (a b : List (Int × Nat)), cst (a ++ b) = cst a + cst b
  | [], b => by show cst b = 0 + cst b; omega
  | x :: a, b => by
    show x.1 * x.2 + cst (a ++ b) = x.1 * x.2 + cst a + cst b
    rw [cst_app a b]; omega
theorem kr_app : ∀ (a b : List (Int × Nat)), kr (a ++ b) = kr a + kr b
  | [], b => by show kr b = 0 + kr b; omega
  | x :: a, b => by
    show 2 ^ (7 - x.2) + kr (a ++ b) = 2 ^ (7 - x.2) + kr a + kr b
    rw [kr_app a b]; omega
theorem al_ok {D : Int → Int → Int} {j : Int} {dep : Int → Nat} (m : Nat) : (al D j dep m).map (·.1) = wl D j m ∧ kr (al D j dep m) = sumI (fun p => if bt j p = 1 then 2 ^ (7 - dep p) else 0) m ∧ cst (al D j dep m) = sumI (fun p => if bt j p = 1 then D 3 p * (dep p : Int) else 0) m ∧ ∀ q ∈ al D j dep m, ∃ p, (0 ≤ p ∧ p < (m : Int)) ∧ bt j p = 1 ∧ q.2 = dep p := by
  induction m with
  | zero => exact ⟨rfl, rfl, rfl, fun q hq => absurd hq List.not_mem_nil⟩
  | succ m ih =>
    obtain ⟨i1, i2, i3, i4⟩ := ih
    have es : al D j dep ((m : Int) + 1) = if bt j m = 1 then al D j dep m ++ [(D 3 m, dep m)] else al D j dep m := foldI_s (by omega)
    rw [show ((m + 1 : Nat) : Int) = (m : Int) + 1 by omega, wl_s (by omega), sumI_s (by omega), sumI_s (by omega), es]
    by_cases c : bt j m = 1
    · rw [if_pos c, if_pos c, if_pos c, if_pos c]
      refine ⟨by rw [List.map_append, i1]; rfl, by rw [kr_app, i2]; show _ + (2 ^ (7 - dep m) + 0) = _; omega, by rw [cst_app, i3]; show _ + (D 3 m * (dep m : Int) + 0) = _; omega, fun q hq => ?_⟩
      rcases List.mem_append.mp hq with hq | hq
      · obtain ⟨p, h1, h2⟩ := i4 q hq
        exact ⟨p, by omega, h2⟩
      · rw [List.mem_singleton.mp hq]
        exact ⟨m, by omega, c, rfl⟩
    · rw [if_neg c, if_neg c, if_neg c, if_neg c]
      refine ⟨i1, by omega, by omega, fun q hq => ?_⟩
      obtain ⟨p, h1, h2⟩ := i4 q hq
      exact ⟨p, by omega, h2⟩
theorem KA_low {D : Int → Int → Int} {n mi j c h : Int} (hB : CarOK D n mi) (hj : 0 ≤ j ∧ j ≤ 127) (hk : KA D n j c) (hc : HC ((wl D j n).length - 1) (wl D j n) h) : h ≤ c := by
  have hn := hB.1
  obtain ⟨dep, d1, d2, d3⟩ := hk
  have ha := al_ok (D := D) (j := j) (dep := dep) n.toNat
  rw [Int.toNat_of_nonneg hn.1] at ha
  obtain ⟨i1, i2, i3, i4⟩ := ha
  have hp := pop_bd' hj
  have := HC_low _ (td (al D j dep n)) _ h hc (fun x hx => (wl_bd hB x hx).1) (al D j dep n) (Nat.le_refl _) (by rw [i1]) (fun q hq => by
    obtain ⟨p, h1, h2, h3⟩ := i4 q hq
    have := d1 p h1.1 h1.2 h2
    omega) (by omega)
  omega
-- the other way: the table is no more than any joining
def Gd (D : Int → Int → Int) (n : Int) (X : Int → Int) (j : Int) : Prop := (0 ≤ X j ∧ X j ≤ 63 * (j - 1)) ∧ KA D n j (X j) ∧ (pop j = 1 → X j = 0) ∧ ∀ a, 1 ≤ a → a < j → andn a j = 0 → X j ≤ X a + X (andn j a) + wts D n j
theorem perm_lift {α β : Type} {f : α → β} {l1 l2 : List β} (h : l1.Perm l2) : ∀ m1 : List α, m1.map f = l1 → ∃ m2, m1.Perm m2 ∧ m2.map f = l2 := by
  induction h with
  | nil => intro m1 h1; exact ⟨m1, List.Perm.refl _, h1⟩
  | cons x _ ih =>
    intro m1 h1
    cases m1 with
    | nil => simp at h1
    | cons y m =>
      simp at h1
      obtain ⟨m2, g1, g2⟩ := ih m h1.2
      exact ⟨y :: m2, g1.cons y, by rw [List.map_cons, g2, h1.1]⟩
  | swap x y l =>
    intro m1 h1
    match m1, h1 with
    | [], h1 => simp at h1
    | [a], h1 => simp at h1
    | a :: b :: m, h1 =>
      simp at h1
      exact ⟨b :: a :: m, List.Perm.swap _ _ _, by simp [h1]⟩
  | trans _ _ ih1 ih2 =>
    intro m1 h1
    obtain ⟨m2, g1, g2⟩ := ih1 m1 h1
    obtain ⟨m3, g3, g4⟩ := ih2 m2 g2
    exact ⟨m3, g1.trans g3, g4⟩
def lbt : List Int → Int → Int
  | [], _ => 0
  | b :: l, p => bt b p + lbt l p
def lX (X : Int → Int) : List Int → Int
  | [] => 0
  | b :: l => X b + lX X l
theorem lbt_perm {a b : List Int} {p : Int} (h : a.Perm b) : lbt a p = lbt b p := by
  induction h with
  | nil => rfl
  | cons x _ ih => show bt x p + lbt _ p = bt x p + lbt _ p; rw [ih]
  | swap x y l => show bt y p + (bt x p + lbt l p) = bt x p + (bt y p + lbt l p); omega
  | trans _ _ h1 h2 => exact h1.trans h2
theorem lX_perm {X : Int → Int} {a b : List Int} (h : a.Perm b) : lX X a = lX X b := by
  induction h with
  | nil => rfl
  | cons x _ ih => show X x + lX X _ = X x + lX X _; rw [ih]
  | swap x y l => show X y + (X x + lX X l) = X x + (X y + lX X l); omega
  | trans _ _ h1 h2 => exact h1.trans h2
theorem lbt_pos {p : Int} : ∀ (l : List Int), 0 ≤ lbt l p
  | [] => Int.le_refl _
  | b :: l => by
    have := lbt_pos (p := p) l
    have := bt_01 (x := b) (p := p)
    show 0 ≤ bt b p + lbt l p
    omega
theorem HC_up {D : Int → Int → Int} {n set : Int} {X : Int → Int} (hn : 0 ≤ n ∧ n ≤ 7) (hs : 0 ≤ set ∧ set ≤ 127) (hG : ∀ j, 1 ≤ j → j ≤ set → andn j set = 0 → Gd D n X j) : ∀ (k : Nat) (L : List Int) (c : Int), HC k L c → ∀ Bs : List Int, (Bs.map (wts D n)).Perm L → (∀ b ∈ Bs, 1 ≤ b ∧ b ≤ 127) → (∀ p, 0 ≤ p → p < 7 → lbt Bs p = bt set p) → X set ≤ c + lX X Bs
  | 0, L, c, ⟨⟨x, hx⟩, hc⟩, Bs, hB, hr, hb => by
    subst hx
    have hl := hB.length_eq
    simp at hl
    obtain ⟨b, rfl⟩ := List.length_eq_one_iff.mp hl
    have e : b = set := bits7 ⟨by have := hr b List.mem_cons_self; omega, by have := hr b List.mem_cons_self; omega⟩ hs (fun p h1 h2 => by
      have e9 : bt b p + 0 = bt set p := hb p h1 h2
      rw [← e9, Int.add_zero])
    subst e
    show X b ≤ c + (X b + 0)
    omega
  | k + 1, L, c, ⟨a, b, R, c', h1, h2, h3, h4⟩, Bs, hB, hr, hb => by
    obtain ⟨m2, g1, g2⟩ := perm_lift (hB.trans h1) Bs rfl
    match m2, g2 with
    | [], g2 => simp at g2
    | [_], g2 => simp at g2
    | b1 :: b2 :: Bs', g2 =>
      simp at g2
      obtain ⟨e1, e2, e3⟩ := g2
      have r1 := hr b1 (g1.mem_iff.mpr List.mem_cons_self)
      have r2 := hr b2 (g1.mem_iff.mpr (List.mem_cons_of_mem _ List.mem_cons_self))
      have hb2 : ∀ p, 0 ≤ p → p < 7 → bt b1 p + (bt b2 p + lbt Bs' p) = bt set p := fun p p1 p2 => by rw [← hb p p1 p2, lbt_perm g1]; rfl
      have o1 : 0 ≤ orI b1 b2 ∧ orI b1 b2 ≤ 127 := by
        unfold orI
        have : b1.toNat ||| b2.toNat < 2 ^ 7 := Nat.or_lt_two_pow (by omega) (by omega)
        omega
      have hj : bsum (orI b1 b2) b1 b2 := by
        intro p p1 p2
        have q := bt_orI (a := b1) (b := b2) (p := p) (by omega) (by omega) p1
        have := hb2 p p1 p2
        have := lbt_pos (p := p) Bs'
        have := bt_01 (x := set) (p := p)
        have := bt_01 (x := b1) (p := p)
        have := bt_01 (x := b2) (p := p)
        have := bt_01 (x := orI b1 b2) (p := p)
        by_cases c1 : bt (orI b1 b2) p = 1
        · have := q.mp c1; omega
        · have : ¬ (bt b1 p = 1 ∨ bt b2 p = 1) := fun z => c1 (q.mpr z)
          omega
      have hjs : andn (orI b1 b2) set = 0 := sub_of o1 hs.1 (fun p p1 p2 p3 => by
        have := hj p p1 p2
        have := hb2 p p1 p2
        have := lbt_pos (p := p) Bs'
        have := bt_01 (x := set) (p := p)
        omega)
      have hj1 : andn b1 (orI b1 b2) = 0 := sub_of (by omega) o1.1 (fun p p1 p2 p3 => by
        have := hj p p1 p2
        have := bt_01 (x := b2) (p := p)
        have := bt_01 (x := orI b1 b2) (p := p)
        omega)
      have hj2 : andn (orI b1 b2) b1 = b2 := by
        have hl := andn_le (a := orI b1 b2) (b := b1) o1.1
        refine bits7 (by omega) (by omega) (fun p p1 p2 => ?_)
        rw [bt_andn o1.1 (by omega) p1]
        have := hj p p1 p2
        have := bt_01 (x := b2) (p := p)
        have := bt_01 (x := b1) (p := p)
        have := bt_01 (x := orI b1 b2) (p := p)
        omega
      have hadd := andn_add (a := b1) (k := orI b1 b2) (by omega) o1 hj1
      rw [hj2] at hadd
      have hle : orI b1 b2 ≤ set := by
        have := andn_add o1 hs hjs
        have := andn_le (a := set) (b := orI b1 b2) hs.1
        omega
      have hg := (hG _ (by omega) hle hjs).2.2.2 b1 (by omega) (by omega) hj1
      rw [hj2] at hg
      have hw := wts_add (D := D) hn hj
      have ih := HC_up hn hs hG k ((a + b) :: R) c' h3 (orI b1 b2 :: Bs') (by
        rw [List.map_cons, e3, hw, e1, e2]) (fun z hz => by
        rcases List.mem_cons.mp hz with rfl | hz
        · omega
        · exact hr z (g1.mem_iff.mpr (List.mem_cons_of_mem _ (List.mem_cons_of_mem _ hz)))) (fun p p1 p2 => by
        show bt (orI b1 b2) p + lbt Bs' p = bt set p
        rw [hj p p1 p2, ← hb2 p p1 p2]; omega)
      rw [lX_perm g1]
      have e9 : lX X (orI b1 b2 :: Bs') = X (orI b1 b2) + lX X Bs' := rfl
      have e8 : lX X (b1 :: b2 :: Bs') = X b1 + (X b2 + lX X Bs') := rfl
      omega
def sg (set i : Int) : List Int := foldI (fun p l => if bt set p = 1 then l ++ [2 ^ p.toNat] else l) [] i
theorem wts_pow {D : Int → Int → Int} {n p : Int} (hp : 0 ≤ p ∧ p < n) : wts D n (2 ^ p.toNat) = D 3 p := by
  have key : ∀ m : Nat, sumI (fun q => if bt (2 ^ p.toNat) q = 1 then D 3 q else 0) m = if p < m then D 3 p else 0 := by
    intro m
    induction m with
    | zero => rw [if_neg (by omega)]; rfl
    | succ m ih =>
      rw [show ((m + 1 : Nat) : Int) = (m : Int) + 1 by omega, sumI_s (by omega), ih]
      have hb := bt_pow (k := p) (p := (m : Int)) hp.1 (by omega)
      by_cases c : (m : Int) = p
      · rw [if_neg (show ¬ p < (m : Int) by omega), if_pos (hb.mpr c), if_pos (show p < (m : Int) + 1 by omega), c]; omega
      · rw [if_neg (fun q => c (hb.mp q))]
        by_cases c2 : p < (m : Int)
        · rw [if_pos c2, if_pos (show p < (m : Int) + 1 by omega)]; omega
        · rw [if_neg c2, if_neg (show ¬ p < (m : Int) + 1 by omega)]; rfl
  have := key n.toNat
  rw [Int.toNat_of_nonneg (by omega), if_pos hp.2] at this
  exact this
theorem lbt_app {p : Int} : ∀ (a b : List Int), lbt (a ++ b) p = lbt a p + lbt b p
  | [], b => by show lbt b p = 0 + lbt b p; omega
  | x :: a, b => by
    show bt x p + lbt (a ++ b) p = bt x p + lbt a p + lbt b p
    rw [lbt_app a b]; omega
theorem lX_app {X : Int → Int} : ∀ (a b : List Int), lX X (a ++ b) = lX X a + lX X b
  | [], b => by show lX X b = 0 + lX X b; omega
  | x :: a, b => by
    show X x + lX X (a ++ b) = X x + lX X a + lX X b
    rw [lX_app a b]; omega
theorem sg_ok {D : Int → Int → Int} {n set : Int} {X : Int → Int} (hn : 0 ≤ n ∧ n ≤ 7) (hX : ∀ p, 0 ≤ p → p < n → bt set p = 1 → X (2 ^ p.toNat) = 0) (m : Nat) (hm : (m : Int) ≤ n) : (sg set m).map (wts D n) = wl D set m ∧ (∀ b ∈ sg set m, 1 ≤ b ∧ b ≤ 127) ∧ (∀ p, 0 ≤ p → lbt (sg set m) p = if p < (m : Int) then bt set p else 0) ∧ lX X (sg set m) = 0 := by
  induction m with
  | zero => exact ⟨rfl, fun b hb => absurd hb List.not_mem_nil, fun p hp => by rw [if_neg (by omega)]; rfl, rfl⟩
  | succ m ih =>
    obtain ⟨i1, i2, i3, i4⟩ := ih (by omega)
    have es : sg set ((m : Int) + 1) = if bt set m = 1 then sg set m ++ [2 ^ (m : Int).toNat] else sg set m := foldI_s (by omega)
    rw [show ((m + 1 : Nat) : Int) = (m : Int) + 1 by omega, wl_s (by omega), es]
    by_cases c : bt set m = 1
    · rw [if_pos c, if_pos c]
      have h6 := pw64 (p := (m : Int)) (by omega)
      refine ⟨by rw [List.map_append, i1, List.map_singleton, wts_pow (by omega)], fun b hb => ?_, fun p hp => ?_, by rw [lX_app, i4]; show 0 + (X _ + 0) = 0; rw [hX m (by omega) (by omega) c]; rfl⟩
      · rcases List.mem_append.mp hb with hb | hb
        · exact i2 b hb
        · rw [List.mem_singleton.mp hb]; omega
      · rw [lbt_app, i3 p hp]
        show _ + (bt (2 ^ (m : Int).toNat) p + 0) = _
        have hb := bt_pow (k := (m : Int)) (p := p) (by omega) hp
        have := bt_01 (x := 2 ^ (m : Int).toNat) (p := p)
        by_cases c2 : p = m
        · subst c2
          rw [if_neg (by omega), hb.mpr rfl, if_pos (by omega), c]; rfl
        · have h0 : bt (2 ^ (m : Int).toNat) p = 0 := by
            rcases this with q | q
            · exact q
            · exact absurd (hb.mp q) c2
          rw [h0]
          by_cases c3 : p < (m : Int)
          · rw [if_pos c3, if_pos (show p < (m : Int) + 1 by omega)]; omega
          · rw [if_neg c3, if_neg (show ¬ p < (m : Int) + 1 by omega)]; rfl
    · rw [if_neg c, if_neg c]
      refine ⟨i1, i2, fun p hp => ?_, i4⟩
      rw [i3 p hp]
      have := bt_01 (x := set) (p := (m : Int))
      by_cases c2 : p = m
      · subst c2
        rw [if_neg (by omega), if_pos (by omega)]; omega
      · by_cases c3 : p < (m : Int)
        · rw [if_pos c3, if_pos (show p < (m : Int) + 1 by omega)]
        · rw [if_neg c3, if_neg (show ¬ p < (m : Int) + 1 by omega)]
theorem dp_eq {D : Int → Int → Int} {n mi set : Int} {X : Int → Int} (hB : CarOK D n mi) (hs : 1 ≤ set ∧ set < 2 ^ n.toNat) (hG : ∀ j, 1 ≤ j → j ≤ set → andn j set = 0 → Gd D n X j) : X set = halV D n set := by
  have hn := hB.1
  have hpw := pow7 (n := n) (by omega)
  have hlen := wl_len (D := D) hn.1 hs
  obtain ⟨c, hc⟩ := HC_ex ((wl D set n).length - 1) (wl D set n) (by omega)
  rw [halV_eq hc]
  have hself : andn set set = 0 := sub_of (by omega) (by omega) (fun p _ _ h => h)
  have h1 := KA_low hB (by omega) (hG set (by omega) (by omega) hself).2.1 hc
  have hX : ∀ p, 0 ≤ p → p < n → bt set p = 1 → X (2 ^ p.toNat) = 0 := by
    intro p p1 p2 p3
    have h6 := pw64 (p := p) (by omega)
    have hsub : andn (2 ^ p.toNat) set = 0 := sub_of (by omega) (by omega) (fun q q1 q2 q3 => by rw [(bt_pow p1 q1).mp q3]; exact p3)
    have hle := andn_add (a := 2 ^ p.toNat) (k := set) (by omega) (by omega) hsub
    have hl := andn_le (a := set) (b := 2 ^ p.toNat) (by omega)
    exact (hG _ (by omega) (by omega) hsub).2.2.1 (pop_pow (by omega))
  have hsg := sg_ok (D := D) (n := n) (set := set) (X := X) (by omega) hX n.toNat (by omega)
  rw [Int.toNat_of_nonneg hn.1] at hsg
  have h2 := HC_up (D := D) (n := n) (set := set) (X := X) (by omega) (by omega) hG _ _ c hc (sg set n) (by rw [hsg.1]) hsg.2.1 (fun p p1 p2 => by
    rw [hsg.2.2.1 p p1]
    by_cases c3 : p < n
    · rw [if_pos c3]
    · rw [if_neg c3]; exact (bt_far (n := n) (by omega) (by omega) (by omega)).symm)
  rw [hsg.2.2.2] at h2
  omega
theorem Gd_congr {D : Int → Int → Int} {n j : Int} {X Y : Int → Int} (h : Gd D n X j) (hj : 0 ≤ j ∧ j ≤ 127) (e : ∀ i, 0 ≤ i → i ≤ j → X i = Y i) : Gd D n Y j := by
  obtain ⟨h1, h2, h3, h4⟩ := h
  have ej := e j hj.1 (by omega)
  refine ⟨by rw [← ej]; exact h1, by rw [← ej]; exact h2, by rw [← ej]; exact h3, fun a a1 a2 a3 => ?_⟩
  have hl := andn_le (a := j) (b := a) hj.1
  rw [← ej, ← e a (by omega) (by omega), ← e (andn j a) hl.1 hl.2]
  exact h4 a a1 a2 a3
theorem sub_ex {k : Int} (hk : 1 ≤ k ∧ k ≤ 127) (hp : pop k ≠ 1) : ∃ a, 1 ≤ a ∧ a < k ∧ andn a k = 0 := by
  obtain ⟨p, h1, h2⟩ := bit7 hk
  have h6 := pw64 h1
  have hsub : andn (2 ^ p.toNat) k = 0 := sub_of (by omega) (by omega) (fun q q1 q2 q3 => by rw [(bt_pow h1.1 q1).mp q3]; exact h2)
  have hle := andn_add (a := 2 ^ p.toNat) (k := k) (by omega) (by omega) hsub
  have hl := andn_le (a := k) (b := 2 ^ p.toNat) (by omega)
  refine ⟨2 ^ p.toNat, by omega, ?_, hsub⟩
  rcases Int.lt_or_le (2 ^ p.toNat) k with q | q
  · exact q
  · exfalso
    have : k = 2 ^ p.toNat := by omega
    rw [this, pop_pow h1] at hp
    exact hp rfl
/-- the table while the set k is worked on, its parts below m seen -/
def Cu (D : Int → Int → Int) (n : Int) (X : Int → Int) (k m : Int) : Prop := (pop k = 1 → X k = 0) ∧ (∀ a, 1 ≤ a → a < m → andn a k = 0 → X k ≤ X a + X (andn k a) + wts D n k) ∧ ((X k = 1000000000 ∧ pop k ≠ 1 ∧ ∀ a, 1 ≤ a → a < m → ¬ andn a k = 0) ∨ ((0 ≤ X k ∧ X k ≤ 63 * (k - 1)) ∧ KA D n k (X k)))
theorem Cu_end {D : Int → Int → Int} {n : Int} {X : Int → Int} {k : Int} (hk : 1 ≤ k ∧ k ≤ 127) (h : Cu D n X k k) : Gd D n X k := by
  obtain ⟨h1, h2, h3⟩ := h
  rcases h3 with ⟨_, q1, q2⟩ | ⟨q1, q2⟩
  · obtain ⟨a, a1, a2, a3⟩ := sub_ex hk q1
    exact absurd a3 (q2 a a1 a2)
  · exact ⟨q1, q2, h1, h2⟩
theorem Cu_beg {D : Int → Int → Int} {n : Int} {X : Int → Int} {k : Int} (hn : 0 ≤ n ∧ n ≤ 7) (hk : 1 ≤ k) (h : X k = if pop k = 1 then 0 else 1000000000) : Cu D n X k 1 := by
  refine ⟨fun q => by rw [h, if_pos q], fun a a1 a2 => by omega, ?_⟩
  by_cases c : pop k = 1
  · right
    have e : X k = 0 := by rw [h, if_pos c]
    rw [e]
    exact ⟨by omega, KA_one hn c⟩
  · left
    exact ⟨by rw [h, if_neg c], c, fun a a1 a2 => by omega⟩
theorem Cu_skip {D : Int → Int → Int} {n : Int} {X : Int → Int} {k m : Int} (h : Cu D n X k m) (hm : ¬ andn m k = 0) : Cu D n X k (m + 1) := by
  obtain ⟨h1, h2, h3⟩ := h
  refine ⟨h1, fun a a1 a2 a3 => ?_, ?_⟩
  · by_cases c : a = m
    · subst c; exact absurd a3 hm
    · exact h2 a a1 (by omega) a3
  · rcases h3 with ⟨q1, q2, q3⟩ | q
    · refine Or.inl ⟨q1, q2, fun a a1 a2 => ?_⟩
      by_cases c : a = m
      · subst c; exact hm
      · exact q3 a a1 (by omega)
    · exact Or.inr q
theorem Cu_step {D : Int → Int → Int} {n mi : Int} {X : Int → Int} {k m : Int} (hB : CarOK D n mi) (hk : 1 ≤ k ∧ k ≤ 127) (hm : 1 ≤ m ∧ m < k) (h : Cu D n X k m) (h0 : andn m k = 0) (g1 : Gd D n X m) (g2 : Gd D n X (andn k m)) {y : Int} (hy : y = if X m + X (andn k m) + wts D n k < X k then X m + X (andn k m) + wts D n k else X k) : Cu D n (upi X k y) k (m + 1) := by
  have hn := hB.1
  have hadd := andn_add (a := m) (k := k) (by omega) (by omega) h0
  have hw := wts_bd (set := k) hB
  have hpm := pop_ge1 (a := m) (by omega)
  have hpk := pop_ge1 (a := andn k m) (by omega)
  have hp7 := pop_bd' (x := k) (by omega)
  have hbs := bsum_of (a := m) (k := k) (by omega) (by omega) h0
  have hka := KA_join (D := D) (n := n) (by omega) hbs hpm hpk hp7.2 g1.2.1 g2.2.1
  have hpa := pop_add hbs
  obtain ⟨h1, h2, h3⟩ := h
  have b1 := g1.1
  have b2 := g2.1
  have ne : ∀ a, 1 ≤ a → a < k → andn a k = 0 → upi X k y a = X a ∧ upi X k y (andn k a) = X (andn k a) := by
    intro a a1 a2 a3
    have := andn_add (a := a) (k := k) (by omega) (by omega) a3
    exact ⟨upi_n (by omega), upi_n (by omega)⟩
  refine ⟨fun q => by omega, fun a a1 a2 a3 => ?_, ?_⟩
  · rw [upi_s, (ne a a1 (by omega) a3).1, (ne a a1 (by omega) a3).2, hy]
    by_cases c : a = m
    · subst c; split <;> omega
    · have := h2 a a1 (by omega) a3
      split <;> omega
  · right
    rw [upi_s, hy]
    split
    · exact ⟨by omega, hka⟩
    · rcases h3 with ⟨q1, q2, q3⟩ | q
      · omega
      · exact q
theorem Cu_bd {D : Int → Int → Int} {n : Int} {X : Int → Int} {k m : Int} (hk : 1 ≤ k ∧ k ≤ 127) (h : Cu D n X k m) : 0 ≤ X k ∧ X k ≤ 1000000000 := by
  obtain ⟨h1, h2, h3⟩ := h
  rcases h3 with ⟨q1, q2, q3⟩ | q <;> omega
-- one by one: one is taken away
theorem wl_rem {D : Int → Int → Int} {s t p : Int} (hp : 0 ≤ p ∧ bt s p = 1) (ht : ∀ q, 0 ≤ q → (bt t q = 1 ↔ bt s q = 1 ∧ q ≠ p)) (m : Nat) : ((m : Int) ≤ p → wl D s m = wl D t m) ∧ (p < (m : Int) → (wl D s m).Perm (D 3 p :: wl D t m)) := by
  induction m with
  | zero => exact ⟨fun _ => rfl, fun h => by omega⟩
  | succ m ih =>
    obtain ⟨i1, i2⟩ := ih
    rw [show ((m + 1 : Nat) : Int) = (m : Int) + 1 by omega, wl_s (by omega), wl_s (by omega)]
    have hm := ht m (by omega)
    constructor
    · intro h
      rw [i1 (by omega)]
      by_cases c : bt s m = 1
      · rw [if_pos c, if_pos (hm.mpr ⟨c, by omega⟩)]
      · rw [if_neg c, if_neg (fun q => c (hm.mp q).1)]
    · intro h
      by_cases c : (m : Int) = p
      · subst c
        rw [if_pos hp.2, if_neg (fun q => (hm.mp q).2 rfl), i1 (by omega)]
        exact List.perm_append_comm
      · have i := i2 (by omega)
        by_cases c2 : bt s m = 1
        · rw [if_pos c2, if_pos (hm.mpr ⟨c2, c⟩)]
          exact i.append_right _
        · rw [if_neg c2, if_neg (fun q => c2 (hm.mp q).1)]
          exact i
