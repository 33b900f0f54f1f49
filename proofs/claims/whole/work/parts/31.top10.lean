-- ===== numbers by their digits =====
def dg (F : Int → Int) (m : Int) : Prop := ∀ i, 0 ≤ i → i < m → 0 ≤ F i ∧ F i ≤ 9
def dv (F : Int → Int) (m : Int) : Int := sumI (fun i => F i * 10 ^ i.toNat) m
theorem dv_0 {F : Int → Int} : dv F 0 = 0 := rfl
theorem dv_s {F : Int → Int} {m : Int} (h : 0 ≤ m) : dv F (m + 1) = dv F m + F m * 10 ^ m.toNat := sumI_s h
theorem dv_congr {F H : Int → Int} {m : Int} (h : ∀ i, 0 ≤ i → i < m → F i = H i) : dv F m = dv H m := sumI_congr (fun k h1 h2 => by rw [h k h1 h2])
theorem p10 (k : Nat) : (1 : Int) ≤ 10 ^ k := by have := Int.pow_pos (n := 10) (m := k) (by omega); omega
theorem p10_s {i : Int} (h : 0 ≤ i) : (10 : Int) ^ (i + 1).toNat = 10 ^ i.toNat * 10 := by rw [show (i + 1).toNat = i.toNat + 1 by omega, Int.pow_succ]
theorem p10_le {i j : Int} (h : 0 ≤ i) (hj : i ≤ j) : (10 : Int) ^ i.toNat ≤ 10 ^ j.toNat := by
  have := Nat.pow_le_pow_right (n := 10) (by omega) (show i.toNat ≤ j.toNat by omega)
  have e1 : (10 : Int) ^ i.toNat = ((10 ^ i.toNat : Nat) : Int) := by simp
  have e2 : (10 : Int) ^ j.toNat = ((10 ^ j.toNat : Nat) : Int) := by simp
  omega
theorem dmul {a : Int} (k : Nat) (h : 0 ≤ a ∧ a ≤ 9) : 0 ≤ a * 10 ^ k ∧ a * 10 ^ k ≤ 9 * 10 ^ k :=
  ⟨Int.mul_nonneg h.1 (by have := p10 k; omega), Int.mul_le_mul_of_nonneg_right h.2 (by have := p10 k; omega)⟩
theorem dv_bd {F : Int → Int} {m : Int} (hm : 0 ≤ m) (h : dg F m) : 0 ≤ dv F m ∧ dv F m < 10 ^ m.toNat := by
  have key : ∀ k : Nat, (k : Int) ≤ m → 0 ≤ dv F k ∧ dv F k < 10 ^ k := by
    intro k
    induction k with
    | zero => intro _; exact ⟨Int.le_refl _, by show (0 : Int) < 1; omega⟩
    | succ k ih =>
      intro hk
      rw [show ((k + 1 : Nat) : Int) = (k : Int) + 1 by omega, dv_s (by omega), Int.toNat_natCast, Int.pow_succ]
      have := ih (by omega)
      have := dmul k (h k (by omega) (by omega))
      omega
  have := key m.toNat (by omega)
  rwa [Int.toNat_of_nonneg hm] at this
theorem dv_mono {F : Int → Int} {k m : Int} (hk : 0 ≤ k) (hm : k ≤ m) (h : dg F m) : dv F k ≤ dv F m := by
  have key : ∀ j : Nat, k + j ≤ m → dv F k ≤ dv F (k + j) := by
    intro j
    induction j with
    | zero => intro _; rw [show k + ((0 : Nat) : Int) = k by omega]; exact Int.le_refl _
    | succ j ih =>
      intro hj
      rw [show k + ((j + 1 : Nat) : Int) = (k + j) + 1 by omega, dv_s (by omega)]
      have := ih (by omega)
      have := (dmul (k + j).toNat (h (k + j) (by omega) (by omega))).1
      omega
  have := key (m - k).toNat (by omega)
  rwa [show k + ((m - k).toNat : Int) = m by omega] at this
theorem dv_ge {F : Int → Int} {k m : Int} (hk : 0 ≤ k ∧ k < m) (h : dg F m) : dv F k + F k * 10 ^ k.toNat ≤ dv F m := by
  have := dv_mono (F := F) (k := k + 1) (m := m) (by omega) (by omega) h
  rwa [dv_s hk.1] at this
theorem dv_up {F : Int → Int} {i x : Int} (hi : 0 ≤ i) : dv (upi F i x) (i + 1) = dv F i + x * 10 ^ i.toNat := by
  rw [dv_s hi, upi_s, dv_congr (F := upi F i x) (H := F) (fun j h1 h2 => upi_n (by omega))]
theorem dg_up {F : Int → Int} {i m x : Int} (h : dg F m) (hx : 0 ≤ x ∧ x ≤ 9) : dg (upi F i x) m := fun j h1 h2 => by
  unfold upi; split
  · exact hx
  · exact h j h1 h2
/-- a step of a start: x stands at place i and above -/
theorem dst_step {F : Int → Int} {i x v : Int} (hi : 0 ≤ i) (h : dv F i + x * 10 ^ i.toNat = v) : dv (upi F i (x % 10)) (i + 1) + x / 10 * 10 ^ (i + 1).toNat = v := by
  rw [dv_up hi, p10_s hi, ← h]
  have e : x = 10 * (x / 10) + x % 10 := by omega
  have e2 : x * 10 ^ i.toNat = (10 * (x / 10) + x % 10) * 10 ^ i.toNat := by rw [← e]
  rw [e2, Int.add_mul, Int.mul_comm (10 ^ i.toNat) 10, ← Int.mul_assoc, Int.mul_comm (x / 10) 10]
  omega
theorem dmu_step {F F0 : Int → Int} {i c f : Int} (hi : 0 ≤ i) (h : dv F i + c * 10 ^ i.toNat = f * dv F0 i) : dv (upi F i ((F0 i * f + c) % 10)) (i + 1) + (F0 i * f + c) / 10 * 10 ^ (i + 1).toNat = f * dv F0 (i + 1) := by
  have h2 : dv F i + (F0 i * f + c) * 10 ^ i.toNat = f * dv F0 (i + 1) := by
    rw [dv_s hi, Int.mul_add, ← h, Int.add_mul, Int.mul_comm (F0 i) f, Int.mul_assoc]
    omega
  exact dst_step hi h2
theorem dtop {m a x c : Int} (hm : 0 ≤ m) (ha : 0 ≤ a) (hx : 0 ≤ x) (h : a + x * 10 ^ m.toNat = c) (hc : c < 10 ^ m.toNat) : x = 0 ∧ a = c := by
  have h0 := p10 m.toNat
  rcases Int.lt_or_le 0 x with q | q
  · have : 1 * 10 ^ m.toNat ≤ x * 10 ^ m.toNat := Int.mul_le_mul_of_nonneg_right (by omega) (by omega)
    omega
  · have : x = 0 := by omega
    subst this
    rw [Int.zero_mul] at h
    omega
/-- how far a number is seen to be no more than ten to the k, when i places are seen -/
def wtI (F : Int → Int) (k i z : Int) : Prop := if i ≤ k then (z = 1 ∧ dv F i = 0) ∨ (z = 0 ∧ 0 < dv F i) else (dv F i ≤ 10 ^ k.toNat ∧ 0 ≤ z ∧ z ≤ 1)
theorem wt_lo {F : Int → Int} {k i z z' m : Int} (hg : dg F m) (hi : 0 ≤ i ∧ i < m) (hk : i < k) (h : wtI F k i z) (hz : z' = if z = 1 ∧ F i = 0 then 1 else 0) : wtI F k (i + 1) z' := by
  unfold wtI at h ⊢
  rw [if_pos (show i ≤ k by omega)] at h
  rw [if_pos (show i + 1 ≤ k by omega), dv_s hi.1]
  have h1 := hg i hi.1 hi.2
  have h2 := p10 i.toNat
  have h3 := (dmul i.toNat h1).1
  by_cases hF : F i = 0
  · rw [hF, Int.zero_mul]
    rw [hF] at hz
    rcases h with ⟨a, b⟩ | ⟨a, b⟩
    · rw [if_pos ⟨a, rfl⟩] at hz; omega
    · rw [if_neg (fun q => by omega)] at hz; omega
  · have h4 : 1 * 10 ^ i.toNat ≤ F i * 10 ^ i.toNat := Int.mul_le_mul_of_nonneg_right (by omega) (by omega)
    rw [if_neg (fun q => hF q.2)] at hz
    rcases h with ⟨a, b⟩ | ⟨a, b⟩ <;> omega
theorem wt_at {F : Int → Int} {k z m : Int} (hg : dg F m) (hi : 0 ≤ k ∧ k < m) (h : wtI F k k z) (hF : F k = 0 ∨ (F k = 1 ∧ z = 1)) : wtI F k (k + 1) z := by
  unfold wtI at h ⊢
  rw [if_pos (show k ≤ k by omega)] at h
  rw [if_neg (show ¬ k + 1 ≤ k by omega), dv_s hi.1]
  have hb := dv_bd (F := F) hi.1 (fun j g1 g2 => hg j g1 (by omega))
  rcases hF with hF | ⟨hF, hz⟩
  · rw [hF, Int.zero_mul]; omega
  · rw [hF, Int.one_mul]; omega
theorem wt_hi {F : Int → Int} {k i z m : Int} (hk : k < i) (hi : 0 ≤ i ∧ i < m) (h : wtI F k i z) (hF : F i = 0) : wtI F k (i + 1) z := by
  unfold wtI at h ⊢
  rw [if_neg (show ¬ i ≤ k by omega)] at h
  rw [if_neg (show ¬ i + 1 ≤ k by omega), dv_s hi.1, hF, Int.zero_mul, Int.add_zero]
  exact h
theorem wt_no1 {F : Int → Int} {k z m : Int} (hg : dg F m) (hi : 0 ≤ k ∧ k < m) (h : wtI F k k z) (hF : 1 < F k ∨ (F k = 1 ∧ z = 0)) : ¬ dv F m ≤ 10 ^ k.toNat := by
  unfold wtI at h
  rw [if_pos (show k ≤ k by omega)] at h
  have h1 := dv_ge hi hg
  have h2 := p10 k.toNat
  have hb := (dv_bd (F := F) hi.1 (fun j g1 g2 => hg j g1 (by omega))).1
  rcases hF with hF | ⟨hF, hz⟩
  · have h4 : 2 * 10 ^ k.toNat ≤ F k * 10 ^ k.toNat := Int.mul_le_mul_of_nonneg_right (by omega) (by omega)
    omega
  · rw [hF, Int.one_mul] at h1; omega
theorem wt_no2 {F : Int → Int} {k i m : Int} (hg : dg F m) (hk : 0 ≤ k ∧ k < i) (hi : i < m) (hF : ¬ F i = 0) : ¬ dv F m ≤ 10 ^ k.toNat := by
  have h1 := dv_ge (k := i) (by omega) hg
  have h2 := p10 k.toNat
  have h3 := hg i (by omega) hi
  have hb := (dv_bd (F := F) (m := i) (by omega) (fun j g1 g2 => hg j g1 (by omega))).1
  have h4 : 1 * 10 ^ i.toNat ≤ F i * 10 ^ i.toNat := Int.mul_le_mul_of_nonneg_right (by omega) (by have := p10 i.toNat; omega)
  have h5 := p10_le (i := k + 1) (j := i) (by omega) (by omega)
  rw [p10_s hk.1] at h5
  omega
theorem wt_end {F : Int → Int} {k m z : Int} (hk : k < m) (h : wtI F k m z) : dv F m ≤ 10 ^ k.toNat := by
  unfold wtI at h
  rw [if_neg (show ¬ m ≤ k by omega)] at h
  exact h.1
def gonP (s t k : Int) : Bool := decide ((t - 1) * (10 - s) ^ k.toNat ≤ 10 ^ k.toNat)
def goneA (s t : Int) : Int := if (1 ≤ s ∧ s ≤ 9) ∧ (2 ≤ t ∧ t ≤ 50) then fstI (gonP s t) 0 61 else -1
theorem gon_bd {a b : Int} {k : Nat} (ha : 0 ≤ a ∧ a ≤ 49) (hb : 1 ≤ b ∧ b ≤ 9) (hk : k ≤ 61) : 0 ≤ a * b ^ k ∧ a * b ^ k < 10 ^ 62 := by
  obtain ⟨b, rfl⟩ := Int.eq_ofNat_of_zero_le (show 0 ≤ b by omega)
  obtain ⟨a, rfl⟩ := Int.eq_ofNat_of_zero_le ha.1
  have h1 : b ^ k ≤ 9 ^ k := Nat.pow_le_pow_left (by omega) k
  have h2 : 9 ^ k ≤ 9 ^ 61 := Nat.pow_le_pow_right (by omega) hk
  have h3 : a * b ^ k ≤ 49 * 9 ^ 61 := Nat.mul_le_mul (by omega) (by omega)
  have h4 : 49 * 9 ^ 61 < 10 ^ 62 := by decide
  have e : (a : Int) * (b : Int) ^ k = ((a * b ^ k : Nat) : Int) := by simp
  have e2 : (10 : Int) ^ 62 = ((10 ^ 62 : Nat) : Int) := by simp
  rw [e, e2]
  omega
theorem gon_bd64 {a b : Int} {k : Nat} (ha : 0 ≤ a ∧ a ≤ 49) (hb : 1 ≤ b ∧ b ≤ 9) (hk : k ≤ 61) : 0 ≤ a * b ^ k ∧ a * b ^ k < 10 ^ (64 : Int).toNat := by
  have := gon_bd ha hb hk
  have h2 : (10 : Int) ^ 62 < 10 ^ (64 : Int).toNat := by decide
  omega
theorem gon_s {a b i : Int} (h : 0 ≤ i) : b * (a * b ^ i.toNat) = a * b ^ (i + 1).toNat := by
  rw [show (i + 1).toNat = i.toNat + 1 by omega, Int.pow_succ, Int.mul_comm b, Int.mul_assoc]
set_option maxRecDepth 100000 in
set_option maxHeartbeats 4000000 in
theorem c_Top_startDigits {l : Launch} {w : AW} {F0 : Int → Int} {hi v : Int} (hO : w 0 = eO 10 [aR 10, aR 18, aR 26, aI hi, aR 1, aR 34, aR 51, aR 52]) (hF : w 52 = eI 64 F0) (hv : 0 ≤ v ∧ v ≤ 49) : Call l m_Top_startDigits false 68 68 [aR 0, aI v] w (fun r w9 => r = none ∧ ∃ F, w9 = up w 52 (eI 64 F) ∧ dg F 64 ∧ dv F 64 = v) := by
  refine Call.of (L := [some (aR 0), some (aI v), none, none]) rfl (Nat.le_of_ble_eq_true rfl) rfl (fun G ad => ?_)
  refine j_iload_n (pc' := 1) (z := v) dX11_startDigits_0 rfl rfl ?_
  refine j_istore_n (pc' := 2) (L' := [some (aR 0), some (aI v), some (aI v), none]) dX11_startDigits_1 rfl (by decide) rfl ?_
  refine j_iconst (pc' := 3) dX11_startDigits_2 rfl ?_
  refine j_istore_n (pc' := 4) (L' := [some (aR 0), some (aI v), some (aI v), some (aI 0)]) dX11_startDigits_3 rfl (by decide) rfl ?_
  have lp4 : ∀ (k9 : Nat) (x : Int) (F : Int → Int) (i : Int), (0 ≤ i ∧ i ≤ 64) → (0 ≤ x ∧ x ≤ 49) → (dg F i) → (dv F i + x * 10 ^ i.toNat = v) → ((64 - i).toNat) = k9 → J l m_Top_startDigits ad G [] false (jZ ad G false 68 m_Top_startDigits.2.2.2.2.cells m_Top_startDigits.2.2.2.2.slots (fun r w9 => r = none ∧ ∃ F, w9 = up w 52 (eI 64 F) ∧ dg F 64 ∧ dv F 64 = v)) 68 0 0 4 [some (aR 0), some (aI v), some (aI x), some (aI i)] [] (up w 52 (eI 64 F)) := by
    intro k9
    induction k9 using Nat.strongRecOn with
    | _ k9 ih4 =>
      intro x F i hi9 hx hg hd hk4
      refine j_iload_n (pc' := 5) (z := i) dX11_startDigits_4 rfl rfl ?_
      refine j_aload_n (pc' := 6) (z := 0) dX11_startDigits_5 rfl rfl ?_
      refine j_get (pc' := 9) (v := aR 52) dX11_startDigits_6 rfl f_Top_67 (by omega) ((up_n (by omega)).trans hO) rfl ?_
      refine j_alen (pc' := 10) dX11_startDigits_9 rfl (by omega) up_s ?_
      refine j_st (st' := [aI 64, aI i]) rfl ?_
      refine j_icmp_ge (tgt := 34) (pc' := 13) dX11_startDigits_10 (by decide) rfl (by omega) (by omega) (fun h10 => ?_) (fun h10 => ?_)
      · exact j_vret dX11_startDigits_34 rfl (by have e9 : i = 64 := (by omega); subst e9; have h9 := dtop (by omega) (dv_bd (by omega) hg).1 hx.1 hd (by have h8 : (49 : Int) < 10 ^ (64 : Int).toNat := (by decide); omega); exact ⟨rfl, F, rfl, hg, h9.2⟩)
      · refine j_aload_n (pc' := 14) (z := 0) dX11_startDigits_13 rfl rfl ?_
        refine j_get (pc' := 17) (v := aR 52) dX11_startDigits_14 rfl f_Top_67 (by omega) ((up_n (by omega)).trans hO) rfl ?_
        refine j_iload_n (pc' := 18) (z := i) dX11_startDigits_17 rfl rfl ?_
        refine j_iload_n (pc' := 19) (z := x) dX11_startDigits_18 rfl rfl ?_
        refine j_bipush (pc' := 21) dX11_startDigits_19 rfl (by decide) ?_
        refine j_irem (pc' := 22) dX11_startDigits_21 rfl (by omega) (by omega) ?_
        refine j_iast (pc' := 23) dX11_startDigits_22 rfl (by omega) up_s (by omega) (by decide) ?_
        refine j_w (w' := up w 52 (eI 64 (upi F i (x % 10)))) (by funext j9; simp only [up]; (repeat' split) <;> first | rfl | (exfalso; omega)) ?_
        refine j_iload_n (pc' := 24) (z := x) dX11_startDigits_23 rfl rfl ?_
        refine j_bipush (pc' := 26) dX11_startDigits_24 rfl (by decide) ?_
        refine j_idiv (pc' := 27) dX11_startDigits_26 rfl (by omega) (by omega) ?_
        refine j_istore_n (pc' := 28) (L' := [some (aR 0), some (aI v), some (aI (x / 10)), some (aI i)]) dX11_startDigits_27 rfl (by decide) rfl ?_
        refine j_iinc (pc' := 31) (z := i) (L' := [some (aR 0), some (aI v), some (aI (x / 10)), some (aI (i + 1))]) dX11_startDigits_28 rfl (by decide) rfl rfl rfl ?_
        refine j_goto (pc' := 4) dX11_startDigits_31 (by decide) ?_
        exact ih4 _ (by omega) (x / 10) (upi F i (x % 10)) (i + 1) (by omega) (by omega) (by intro j h1 h2; unfold upi; split; (omega); exact hg j h1 (by omega)) (by exact dst_step hi9.1 hd) rfl
  refine j_w (w' := up w 52 (eI 64 F0)) (by funext j9; simp only [up]; (repeat' split) <;> first | rfl | (subst_vars; assumption) | (subst_vars; symm; assumption) | (exfalso; omega)) ?_
  exact lp4 _ v F0 0 (by omega) (by omega) (by intro j h1 h2; omega) (by show 0 + v * 1 = v; omega) rfl
set_option maxRecDepth 100000 in
set_option maxHeartbeats 4000000 in
theorem c_Top_multiplyDigits {l : Launch} {w : AW} {F0 : Int → Int} {hi f : Int} (hO : w 0 = eO 10 [aR 10, aR 18, aR 26, aI hi, aR 1, aR 34, aR 51, aR 52]) (hF : w 52 = eI 64 F0) (hf : 1 ≤ f ∧ f ≤ 9) (hg0 : dg F0 64) (hsm : f * dv F0 64 < 10 ^ (64 : Int).toNat) : Call l m_Top_multiplyDigits false 68 68 [aR 0, aI f] w (fun r w9 => r = none ∧ ∃ F, w9 = up w 52 (eI 64 F) ∧ dg F 64 ∧ dv F 64 = f * dv F0 64) := by
  refine Call.of (L := [some (aR 0), some (aI f), none, none, none]) rfl (Nat.le_of_ble_eq_true rfl) rfl (fun G ad => ?_)
  refine j_iconst (pc' := 1) dX11_multiplyDigits_0 rfl ?_
  refine j_istore_n (pc' := 2) (L' := [some (aR 0), some (aI f), some (aI 0), none, none]) dX11_multiplyDigits_1 rfl (by decide) rfl ?_
  refine j_iconst (pc' := 3) dX11_multiplyDigits_2 rfl ?_
  refine j_istore_n (pc' := 4) (L' := [some (aR 0), some (aI f), some (aI 0), some (aI 0), none]) dX11_multiplyDigits_3 rfl (by decide) rfl ?_
  have lp4 : ∀ (k9 : Nat) (c : Int) (F : Int → Int) (i : Int), (0 ≤ i ∧ i ≤ 64) → (0 ≤ c ∧ c ≤ 9) → (dg F 64) → (∀ j, i ≤ j → F j = F0 j) → (dv F i + c * 10 ^ i.toNat = f * dv F0 i) → ((64 - i).toNat) = k9 → J l m_Top_multiplyDigits ad G [] false (jZ ad G false 68 m_Top_multiplyDigits.2.2.2.2.cells m_Top_multiplyDigits.2.2.2.2.slots (fun r w9 => r = none ∧ ∃ F, w9 = up w 52 (eI 64 F) ∧ dg F 64 ∧ dv F 64 = f * dv F0 64)) 68 0 0 4 [some (aR 0), some (aI f), some (aI c), some (aI i), none] [] (up w 52 (eI 64 F)) := by
    intro k9
    induction k9 using Nat.strongRecOn with
    | _ k9 ih4 =>
      intro c F i hi9 hc hg hun hd hk4
      refine j_iload_n (pc' := 5) (z := i) dX11_multiplyDigits_4 rfl rfl ?_
      refine j_aload_n (pc' := 6) (z := 0) dX11_multiplyDigits_5 rfl rfl ?_
      refine j_get (pc' := 9) (v := aR 52) dX11_multiplyDigits_6 rfl f_Top_67 (by omega) ((up_n (by omega)).trans hO) rfl ?_
      refine j_alen (pc' := 10) dX11_multiplyDigits_9 rfl (by omega) up_s ?_
      refine j_st (st' := [aI 64, aI i]) rfl ?_
      refine j_icmp_ge (tgt := 48) (pc' := 13) dX11_multiplyDigits_10 (by decide) rfl (by omega) (by omega) (fun h10 => ?_) (fun h10 => ?_)
      · exact j_vret dX11_multiplyDigits_48 rfl (by have e9 : i = 64 := (by omega); subst e9; have h9 := dtop (by omega) (dv_bd (by omega) hg).1 hc.1 hd hsm; exact ⟨rfl, F, rfl, hg, h9.2⟩)
      · have hFi := hun i (by omega)
        have hFb := hg0 i (by omega) (by omega)
        have hmu : 0 ≤ F0 i * f ∧ F0 i * f ≤ 9 * 9 := ⟨Int.mul_nonneg (by omega) (by omega), Int.mul_le_mul (by omega) (by omega) (by omega) (by omega)⟩
        refine j_aload_n (pc' := 14) (z := 0) dX11_multiplyDigits_13 rfl rfl ?_
        refine j_get (pc' := 17) (v := aR 52) dX11_multiplyDigits_14 rfl f_Top_67 (by omega) ((up_n (by omega)).trans hO) rfl ?_
        refine j_iload_n (pc' := 18) (z := i) dX11_multiplyDigits_17 rfl rfl ?_
        refine j_iald (pc' := 19) dX11_multiplyDigits_18 rfl (by omega) up_s (by omega) (by decide) ?_
        refine j_iload_n (pc' := 20) (z := f) dX11_multiplyDigits_19 rfl rfl ?_
        refine j_st (st' := [aI f, aI (F0 i)]) (by rw [hFi]) ?_
        refine j_imul (pc' := 21) dX11_multiplyDigits_20 rfl ?_
        refine j_iload_n (pc' := 22) (z := c) dX11_multiplyDigits_21 rfl rfl ?_
        refine j_iadd (pc' := 23) dX11_multiplyDigits_22 rfl ?_
        refine j_istore (pc' := 25) (L' := [some (aR 0), some (aI f), some (aI c), some (aI i), some (aI (F0 i * f + c))]) dX11_multiplyDigits_23 rfl (by decide) rfl ?_
        refine j_aload_n (pc' := 26) (z := 0) dX11_multiplyDigits_25 rfl rfl ?_
        refine j_get (pc' := 29) (v := aR 52) dX11_multiplyDigits_26 rfl f_Top_67 (by omega) ((up_n (by omega)).trans hO) rfl ?_
        refine j_iload_n (pc' := 30) (z := i) dX11_multiplyDigits_29 rfl rfl ?_
        refine j_iload (pc' := 32) (z := (F0 i * f + c)) dX11_multiplyDigits_30 rfl rfl ?_
        refine j_bipush (pc' := 34) dX11_multiplyDigits_32 rfl (by decide) ?_
        refine j_irem (pc' := 35) dX11_multiplyDigits_34 rfl (by omega) (by omega) ?_
        refine j_iast (pc' := 36) dX11_multiplyDigits_35 rfl (by omega) up_s (by omega) (by decide) ?_
        refine j_w (w' := up w 52 (eI 64 (upi F i ((F0 i * f + c) % 10)))) (by funext j9; simp only [up]; (repeat' split) <;> first | rfl | (exfalso; omega)) ?_
        refine j_iload (pc' := 38) (z := (F0 i * f + c)) dX11_multiplyDigits_36 rfl rfl ?_
        refine j_bipush (pc' := 40) dX11_multiplyDigits_38 rfl (by decide) ?_
        refine j_idiv (pc' := 41) dX11_multiplyDigits_40 rfl (by omega) (by omega) ?_
        refine j_istore_n (pc' := 42) (L' := [some (aR 0), some (aI f), some (aI ((F0 i * f + c) / 10)), some (aI i), some (aI (F0 i * f + c))]) dX11_multiplyDigits_41 rfl (by decide) rfl ?_
        refine j_iinc (pc' := 45) (z := i) (L' := [some (aR 0), some (aI f), some (aI ((F0 i * f + c) / 10)), some (aI (i + 1)), some (aI (F0 i * f + c))]) dX11_multiplyDigits_42 rfl (by decide) rfl rfl rfl ?_
        refine j_goto (pc' := 4) dX11_multiplyDigits_45 (by decide) ?_
        refine j_forget 4 (L' := [some (aR 0), some (aI f), some (aI ((F0 i * f + c) / 10)), some (aI (i + 1)), none]) rfl ?_
        exact ih4 _ (by omega) ((F0 i * f + c) / 10) (upi F i ((F0 i * f + c) % 10)) (i + 1) (by omega) (by omega) (by exact dg_up hg (by omega)) (by intro j h1; rw [upi_n (by omega)]; exact hun j (by omega)) (by exact dmu_step hi9.1 hd) rfl
  refine j_w (w' := up w 52 (eI 64 F0)) (by funext j9; simp only [up]; (repeat' split) <;> first | rfl | (subst_vars; assumption) | (subst_vars; symm; assumption) | (exfalso; omega)) ?_
  exact lp4 _ 0 F0 0 (by omega) (by omega) (by exact hg0) (by exact fun _ _ => rfl) (by simp [dv_0]) rfl
set_option maxRecDepth 100000 in
set_option maxHeartbeats 4000000 in
theorem c_Top_digitsAtMostPowerOfTen {l : Launch} {w : AW} {F0 : Int → Int} {hi k : Int} (hO : w 0 = eO 10 [aR 10, aR 18, aR 26, aI hi, aR 1, aR 34, aR 51, aR 52]) (hF : w 52 = eI 64 F0) (hk : 0 ≤ k ∧ k ≤ 60) (hg : dg F0 64) : Call l m_Top_digitsAtMostPowerOfTen false 68 68 [aR 0, aI k] w (rt (some (aB (dv F0 64 ≤ 10 ^ k.toNat))) w) := by
  refine Call.of (L := [some (aR 0), some (aI k), none, none]) rfl (Nat.le_of_ble_eq_true rfl) rfl (fun G ad => ?_)
  refine j_iconst (pc' := 1) dX11_digitsAtMostPowerOfTen_0 rfl ?_
  refine j_istore_n (pc' := 2) (L' := [some (aR 0), some (aI k), some (aI 1), none]) dX11_digitsAtMostPowerOfTen_1 rfl (by decide) rfl ?_
  refine j_iconst (pc' := 3) dX11_digitsAtMostPowerOfTen_2 rfl ?_
  refine j_istore_n (pc' := 4) (L' := [some (aR 0), some (aI k), some (aI 1), some (aI 0)]) dX11_digitsAtMostPowerOfTen_3 rfl (by decide) rfl ?_
  have lp4 : ∀ (k9 : Nat) (z : Int) (i : Int), (0 ≤ i ∧ i ≤ 64) → (0 ≤ z ∧ z ≤ 1) → (wtI F0 k i z) → ((64 - i).toNat) = k9 → J l m_Top_digitsAtMostPowerOfTen ad G [] false (jZ ad G false 68 m_Top_digitsAtMostPowerOfTen.2.2.2.2.cells m_Top_digitsAtMostPowerOfTen.2.2.2.2.slots (rt (some (aB (dv F0 64 ≤ 10 ^ k.toNat))) w)) 68 0 0 4 [some (aR 0), some (aI k), some (aI z), some (aI i)] [] w := by
    intro k9
    induction k9 using Nat.strongRecOn with
    | _ k9 ih4 =>
      intro z i hi9 hz hw hk4
      refine j_iload_n (pc' := 5) (z := i) dX11_digitsAtMostPowerOfTen_4 rfl rfl ?_
      refine j_aload_n (pc' := 6) (z := 0) dX11_digitsAtMostPowerOfTen_5 rfl rfl ?_
      refine j_get (pc' := 9) (v := aR 52) dX11_digitsAtMostPowerOfTen_6 rfl f_Top_67 (by omega) hO rfl ?_
      refine j_alen (pc' := 10) dX11_digitsAtMostPowerOfTen_9 rfl (by omega) hF ?_
      refine j_st (st' := [aI 64, aI i]) rfl ?_
      refine j_icmp_ge (tgt := 88) (pc' := 13) dX11_digitsAtMostPowerOfTen_10 (by decide) rfl (by omega) (by omega) (fun h10 => ?_) (fun h10 => ?_)
      · refine j_iconst (pc' := 89) dX11_digitsAtMostPowerOfTen_88 rfl ?_
        exact j_zret1 dX11_digitsAtMostPowerOfTen_89 rfl (rt_b1 (by exact wt_end (by omega) (by rw [show (64 : Int) = i by omega]; exact hw)))
      · have hFb := hg i (by omega) (by omega)
        refine j_iload_n (pc' := 14) (z := i) dX11_digitsAtMostPowerOfTen_13 rfl rfl ?_
        refine j_iload_n (pc' := 15) (z := k) dX11_digitsAtMostPowerOfTen_14 rfl rfl ?_
        refine j_icmp_ge (tgt := 40) (pc' := 18) dX11_digitsAtMostPowerOfTen_15 (by decide) rfl (by omega) (by omega) (fun h15 => ?_) (fun h15 => ?_)
        · refine j_iload_n (pc' := 41) (z := i) dX11_digitsAtMostPowerOfTen_40 rfl rfl ?_
          refine j_iload_n (pc' := 42) (z := k) dX11_digitsAtMostPowerOfTen_41 rfl rfl ?_
          refine j_icmp_ne (tgt := 71) (pc' := 45) dX11_digitsAtMostPowerOfTen_42 (by decide) rfl (by omega) (by omega) (fun h42 => ?_) (fun h42 => ?_)
          · refine j_aload_n (pc' := 72) (z := 0) dX11_digitsAtMostPowerOfTen_71 rfl rfl ?_
            refine j_get (pc' := 75) (v := aR 52) dX11_digitsAtMostPowerOfTen_72 rfl f_Top_67 (by omega) hO rfl ?_
            refine j_iload_n (pc' := 76) (z := i) dX11_digitsAtMostPowerOfTen_75 rfl rfl ?_
            refine j_iald (pc' := 77) dX11_digitsAtMostPowerOfTen_76 rfl (by omega) hF (by omega) (by decide) ?_
            refine j_if_eq (tgt := 82) (pc' := 80) dX11_digitsAtMostPowerOfTen_77 (by decide) rfl (by omega) (fun h77 => ?_) (fun h77 => ?_)
            · refine j_iinc (pc' := 85) (z := i) (L' := [some (aR 0), some (aI k), some (aI z), some (aI (i + 1))]) dX11_digitsAtMostPowerOfTen_82 rfl (by decide) rfl rfl rfl ?_
              refine j_goto (pc' := 4) dX11_digitsAtMostPowerOfTen_85 (by decide) ?_
              exact ih4 _ (by omega) z (i + 1) (by omega) (by omega) (by first | exact wt_lo hg (by omega) (by omega) hw (by first | rw [if_pos (by omega)] | rw [if_neg (by omega)]) | exact wt_hi (m := 64) (by omega) (by omega) hw (by omega) | (have e9 : i = k := (by omega); subst e9; exact wt_at hg (by omega) hw (by omega))) rfl
            · refine j_iconst (pc' := 81) dX11_digitsAtMostPowerOfTen_80 rfl ?_
              exact j_zret0 dX11_digitsAtMostPowerOfTen_81 rfl (rt_b0 (by exact wt_no2 (i := i) hg (by omega) (by omega) (by omega)))
          · refine j_aload_n (pc' := 46) (z := 0) dX11_digitsAtMostPowerOfTen_45 rfl rfl ?_
            refine j_get (pc' := 49) (v := aR 52) dX11_digitsAtMostPowerOfTen_46 rfl f_Top_67 (by omega) hO rfl ?_
            refine j_iload_n (pc' := 50) (z := i) dX11_digitsAtMostPowerOfTen_49 rfl rfl ?_
            refine j_iald (pc' := 51) dX11_digitsAtMostPowerOfTen_50 rfl (by omega) hF (by omega) (by decide) ?_
            refine j_iconst (pc' := 52) dX11_digitsAtMostPowerOfTen_51 rfl ?_
            refine j_icmp_gt (tgt := 69) (pc' := 55) dX11_digitsAtMostPowerOfTen_52 (by decide) rfl (by omega) (by omega) (fun h52 => ?_) (fun h52 => ?_)
            · refine j_iconst (pc' := 70) dX11_digitsAtMostPowerOfTen_69 rfl ?_
              exact j_zret0 dX11_digitsAtMostPowerOfTen_70 rfl (rt_b0 (by have e9 : i = k := (by omega); subst e9; exact wt_no1 hg (by omega) hw (by omega)))
            · refine j_aload_n (pc' := 56) (z := 0) dX11_digitsAtMostPowerOfTen_55 rfl rfl ?_
              refine j_get (pc' := 59) (v := aR 52) dX11_digitsAtMostPowerOfTen_56 rfl f_Top_67 (by omega) hO rfl ?_
              refine j_iload_n (pc' := 60) (z := i) dX11_digitsAtMostPowerOfTen_59 rfl rfl ?_
              refine j_iald (pc' := 61) dX11_digitsAtMostPowerOfTen_60 rfl (by omega) hF (by omega) (by decide) ?_
              refine j_iconst (pc' := 62) dX11_digitsAtMostPowerOfTen_61 rfl ?_
              refine j_icmp_ne (tgt := 82) (pc' := 65) dX11_digitsAtMostPowerOfTen_62 (by decide) rfl (by omega) (by omega) (fun h62 => ?_) (fun h62 => ?_)
              · refine j_iinc (pc' := 85) (z := i) (L' := [some (aR 0), some (aI k), some (aI z), some (aI (i + 1))]) dX11_digitsAtMostPowerOfTen_82 rfl (by decide) rfl rfl rfl ?_
                refine j_goto (pc' := 4) dX11_digitsAtMostPowerOfTen_85 (by decide) ?_
                exact ih4 _ (by omega) z (i + 1) (by omega) (by omega) (by first | exact wt_lo hg (by omega) (by omega) hw (by first | rw [if_pos (by omega)] | rw [if_neg (by omega)]) | exact wt_hi (m := 64) (by omega) (by omega) hw (by omega) | (have e9 : i = k := (by omega); subst e9; exact wt_at hg (by omega) hw (by omega))) rfl
              · refine j_iload_n (pc' := 66) (z := z) dX11_digitsAtMostPowerOfTen_65 rfl rfl ?_
                refine j_if_ne (tgt := 82) (pc' := 69) dX11_digitsAtMostPowerOfTen_66 (by decide) rfl (by omega) (fun h66 => ?_) (fun h66 => ?_)
                · refine j_iinc (pc' := 85) (z := i) (L' := [some (aR 0), some (aI k), some (aI z), some (aI (i + 1))]) dX11_digitsAtMostPowerOfTen_82 rfl (by decide) rfl rfl rfl ?_
                  refine j_goto (pc' := 4) dX11_digitsAtMostPowerOfTen_85 (by decide) ?_
                  exact ih4 _ (by omega) z (i + 1) (by omega) (by omega) (by first | exact wt_lo hg (by omega) (by omega) hw (by first | rw [if_pos (by omega)] | rw [if_neg (by omega)]) | exact wt_hi (m := 64) (by omega) (by omega) hw (by omega) | (have e9 : i = k := (by omega); subst e9; exact wt_at hg (by omega) hw (by omega))) rfl
                · refine j_iconst (pc' := 70) dX11_digitsAtMostPowerOfTen_69 rfl ?_
                  exact j_zret0 dX11_digitsAtMostPowerOfTen_70 rfl (rt_b0 (by have e9 : i = k := (by omega); subst e9; exact wt_no1 hg (by omega) hw (by omega)))
        · refine j_iload_n (pc' := 19) (z := z) dX11_digitsAtMostPowerOfTen_18 rfl rfl ?_
          refine j_if_eq (tgt := 35) (pc' := 22) dX11_digitsAtMostPowerOfTen_19 (by decide) rfl (by omega) (fun h19 => ?_) (fun h19 => ?_)
          · refine j_iconst (pc' := 36) dX11_digitsAtMostPowerOfTen_35 rfl ?_
            refine j_istore_n (pc' := 37) (L' := [some (aR 0), some (aI k), some (aI 0), some (aI i)]) dX11_digitsAtMostPowerOfTen_36 rfl (by decide) rfl ?_
            refine j_goto (pc' := 82) dX11_digitsAtMostPowerOfTen_37 (by decide) ?_
            refine j_iinc (pc' := 85) (z := i) (L' := [some (aR 0), some (aI k), some (aI 0), some (aI (i + 1))]) dX11_digitsAtMostPowerOfTen_82 rfl (by decide) rfl rfl rfl ?_
            refine j_goto (pc' := 4) dX11_digitsAtMostPowerOfTen_85 (by decide) ?_
            exact ih4 _ (by omega) 0 (i + 1) (by omega) (by omega) (by first | exact wt_lo hg (by omega) (by omega) hw (by first | rw [if_pos (by omega)] | rw [if_neg (by omega)]) | exact wt_hi (m := 64) (by omega) (by omega) hw (by omega) | (have e9 : i = k := (by omega); subst e9; exact wt_at hg (by omega) hw (by omega))) rfl
          · refine j_aload_n (pc' := 23) (z := 0) dX11_digitsAtMostPowerOfTen_22 rfl rfl ?_
            refine j_get (pc' := 26) (v := aR 52) dX11_digitsAtMostPowerOfTen_23 rfl f_Top_67 (by omega) hO rfl ?_
            refine j_iload_n (pc' := 27) (z := i) dX11_digitsAtMostPowerOfTen_26 rfl rfl ?_
            refine j_iald (pc' := 28) dX11_digitsAtMostPowerOfTen_27 rfl (by omega) hF (by omega) (by decide) ?_
            refine j_if_ne (tgt := 35) (pc' := 31) dX11_digitsAtMostPowerOfTen_28 (by decide) rfl (by omega) (fun h28 => ?_) (fun h28 => ?_)
            · refine j_iconst (pc' := 36) dX11_digitsAtMostPowerOfTen_35 rfl ?_
              refine j_istore_n (pc' := 37) (L' := [some (aR 0), some (aI k), some (aI 0), some (aI i)]) dX11_digitsAtMostPowerOfTen_36 rfl (by decide) rfl ?_
              refine j_goto (pc' := 82) dX11_digitsAtMostPowerOfTen_37 (by decide) ?_
              refine j_iinc (pc' := 85) (z := i) (L' := [some (aR 0), some (aI k), some (aI 0), some (aI (i + 1))]) dX11_digitsAtMostPowerOfTen_82 rfl (by decide) rfl rfl rfl ?_
              refine j_goto (pc' := 4) dX11_digitsAtMostPowerOfTen_85 (by decide) ?_
              exact ih4 _ (by omega) 0 (i + 1) (by omega) (by omega) (by first | exact wt_lo hg (by omega) (by omega) hw (by first | rw [if_pos (by omega)] | rw [if_neg (by omega)]) | exact wt_hi (m := 64) (by omega) (by omega) hw (by omega) | (have e9 : i = k := (by omega); subst e9; exact wt_at hg (by omega) hw (by omega))) rfl
            · refine j_iconst (pc' := 32) dX11_digitsAtMostPowerOfTen_31 rfl ?_
              refine j_goto (pc' := 36) dX11_digitsAtMostPowerOfTen_32 (by decide) ?_
              refine j_istore_n (pc' := 37) (L' := [some (aR 0), some (aI k), some (aI 1), some (aI i)]) dX11_digitsAtMostPowerOfTen_36 rfl (by decide) rfl ?_
              refine j_goto (pc' := 82) dX11_digitsAtMostPowerOfTen_37 (by decide) ?_
              refine j_iinc (pc' := 85) (z := i) (L' := [some (aR 0), some (aI k), some (aI 1), some (aI (i + 1))]) dX11_digitsAtMostPowerOfTen_82 rfl (by decide) rfl rfl rfl ?_
              refine j_goto (pc' := 4) dX11_digitsAtMostPowerOfTen_85 (by decide) ?_
              exact ih4 _ (by omega) 1 (i + 1) (by omega) (by omega) (by first | exact wt_lo hg (by omega) (by omega) hw (by first | rw [if_pos (by omega)] | rw [if_neg (by omega)]) | exact wt_hi (m := 64) (by omega) (by omega) hw (by omega) | (have e9 : i = k := (by omega); subst e9; exact wt_at hg (by omega) hw (by omega))) rfl
  exact lp4 _ 1 0 (by omega) (by omega) (by unfold wtI; rw [if_pos (show (0 : Int) ≤ k by omega)]; exact Or.inl ⟨rfl, rfl⟩) rfl
set_option maxRecDepth 100000 in
set_option maxHeartbeats 4000000 in
theorem c_Top_gone {l : Launch} {w : AW} {D Di : Int → Int → Int} {n mi hi ni mj : Int} {sh E : Int → Int → Int} {s t : Int} (hW : Comp w D n mi hi Di ni mj sh E) (hB : CarOK D n mi) (hI : CarOK Di ni mj) (hhi : hi = 0 ∨ hi = 1) (hsh : ShOK sh E) (hs : inI s) (ht : inI t) : Call l m_Top_gone false 68 68 [aR 0, aI s, aI t] w (jC w (goneA s t) D n mi hi Di ni mj sh E) := by
  have hT := TS.rf hW
  obtain ⟨hO, hK, hC, ⟨Dt, nt, mt, hCt⟩, hCi, hS34, hSh, ⟨po, hPo⟩, ⟨di, hDi⟩⟩ := hW
  obtain ⟨hn, hD, hs0, hs1, hs2, hs3⟩ := id hB
  refine Call.of (L := [some (aR 0), some (aI s), some (aI t), none]) rfl (Nat.le_of_ble_eq_true rfl) rfl (fun G ad => ?_)
  refine j_iload_n (pc' := 1) (z := s) dX11_gone_0 rfl rfl ?_
  refine j_iconst (pc' := 2) dX11_gone_1 rfl ?_
  refine j_bipush (pc' := 4) dX11_gone_2 rfl (by decide) ?_
  refine j_callS (pc' := 7) (as := [aI s, aI 1, aI 9]) (rest := []) dX11_gone_4 rfl s_Top_126 (c_within (by omega) (by omega) (by omega)) rfl rfl rfl (jdet (st' := [aB (1 ≤ s ∧ s ≤ 9)]) rfl ?_)
  refine j_ifb_eq (tgt := 20) (pc' := 10) dX11_gone_7 (by decide) rfl (fun h7 => ?_) (fun h7 => ?_)
  · refine j_iconst (pc' := 21) dX11_gone_20 rfl ?_
    exact j_iret dX11_gone_21 rfl (jC_of (by unfold goneA; rw [if_neg (by omega)]) hT)
  · refine j_iload_n (pc' := 11) (z := t) dX11_gone_10 rfl rfl ?_
    refine j_iconst (pc' := 12) dX11_gone_11 rfl ?_
    refine j_bipush (pc' := 14) dX11_gone_12 rfl (by decide) ?_
    refine j_callS (pc' := 17) (as := [aI t, aI 2, aI 50]) (rest := []) dX11_gone_14 rfl s_Top_126 (c_within (by omega) (by omega) (by omega)) rfl rfl rfl (jdet (st' := [aB (2 ≤ t ∧ t ≤ 50)]) rfl ?_)
    refine j_ifb_ne (tgt := 22) (pc' := 20) dX11_gone_17 (by decide) rfl (fun h17 => ?_) (fun h17 => ?_)
    · refine j_aload_n (pc' := 23) (z := 0) dX11_gone_22 rfl rfl ?_
      refine j_iload_n (pc' := 24) (z := t) dX11_gone_23 rfl rfl ?_
      refine j_iconst (pc' := 25) dX11_gone_24 rfl ?_
      refine j_isub (pc' := 26) dX11_gone_25 rfl ?_
      refine j_callV (pc' := 29) (as := [aI (t - 1)]) (rest := []) dX11_gone_26 rfl s_Top_238 (c_Top_startDigits hO hDi (v := t - 1) (by omega)) (by omega) hO rfl rfl rfl rfl (fun r9 w9 h9 => ?_)
      obtain ⟨rfl, F1, rfl, hg1, hd1⟩ := h9
      refine j_st (st' := []) rfl ?_
      refine j_iconst (pc' := 30) dX11_gone_29 rfl ?_
      refine j_istore_n (pc' := 31) (L' := [some (aR 0), some (aI s), some (aI t), some (aI 0)]) dX11_gone_30 rfl (by decide) rfl ?_
      have lp31 : ∀ (k9 : Nat) (F : Int → Int) (i : Int), (0 ≤ i ∧ i ≤ 61) → (dg F 64) → (dv F 64 = (t - 1) * (10 - s) ^ i.toNat) → (goneA s t = fstI (gonP s t) i (61 - i).toNat) → ((61 - i).toNat) = k9 → J l m_Top_gone ad G [] false (jZ ad G false 68 m_Top_gone.2.2.2.2.cells m_Top_gone.2.2.2.2.slots (jC w (goneA s t) D n mi hi Di ni mj sh E)) 68 0 0 31 [some (aR 0), some (aI s), some (aI t), some (aI i)] [] (up w 52 (eI 64 F)) := by
        intro k9
        induction k9 using Nat.strongRecOn with
        | _ k9 ih31 =>
          intro F i hi9 hg hd hv hk31
          refine j_iload_n (pc' := 32) (z := i) dX11_gone_31 rfl rfl ?_
          refine j_bipush (pc' := 34) dX11_gone_32 rfl (by decide) ?_
          refine j_icmp_gt (tgt := 61) (pc' := 37) dX11_gone_34 (by decide) rfl (by omega) (by omega) (fun h34 => ?_) (fun h34 => ?_)
          · refine j_bipush (pc' := 63) dX11_gone_61 rfl (by decide) ?_
            exact j_iret dX11_gone_63 rfl (jC_of (by rw [hv, fstI_z (by omega)]) hT.digits)
          · refine j_aload_n (pc' := 38) (z := 0) dX11_gone_37 rfl rfl ?_
            refine j_iload_n (pc' := 39) (z := i) dX11_gone_38 rfl rfl ?_
            refine j_callV (pc' := 42) (as := [aI i]) (rest := []) dX11_gone_39 rfl s_Top_242 (c_Top_digitsAtMostPowerOfTen ((up_n (by omega)).trans hO) up_s (k := i) (by omega) hg) (by omega) ((up_n (by omega)).trans hO) rfl rfl rfl rfl (jdet (st' := [aB (dv F 64 ≤ 10 ^ i.toNat)]) rfl ?_)
            refine j_ifb_eq (tgt := 47) (pc' := 45) dX11_gone_42 (by decide) rfl (fun h42 => ?_) (fun h42 => ?_)
            · refine j_aload_n (pc' := 48) (z := 0) dX11_gone_47 rfl rfl ?_
              refine j_bipush (pc' := 50) dX11_gone_48 rfl (by decide) ?_
              have hsm : (10 - s) * dv F 64 < 10 ^ (64 : Int).toNat := by rw [hd, gon_s hi9.1]; exact (gon_bd64 (by omega) (by omega) (by omega)).2
              refine j_iload_n (pc' := 51) (z := s) dX11_gone_50 rfl rfl ?_
              refine j_isub (pc' := 52) dX11_gone_51 rfl ?_
              refine j_callV (pc' := 55) (as := [aI (10 - s)]) (rest := []) dX11_gone_52 rfl s_Top_245 (c_Top_multiplyDigits ((up_n (by omega)).trans hO) up_s (f := 10 - s) (by omega) hg hsm) (by omega) ((up_n (by omega)).trans hO) rfl rfl rfl rfl (fun r9 w9 h9 => ?_)
              obtain ⟨rfl, F2, rfl, hg2, hd2⟩ := h9
              refine j_st (st' := []) rfl ?_
              refine j_w (w' := up w 52 (eI 64 F2)) (by funext j9; simp only [up]; (repeat' split) <;> first | rfl | (exfalso; omega)) ?_
              refine j_iinc (pc' := 58) (z := i) (L' := [some (aR 0), some (aI s), some (aI t), some (aI (i + 1))]) dX11_gone_55 rfl (by decide) rfl rfl rfl ?_
              refine j_goto (pc' := 31) dX11_gone_58 (by decide) ?_
              exact ih31 _ (by omega) F2 (i + 1) (by omega) (by exact hg2) (by rw [hd2, hd, gon_s hi9.1]) (by rw [hv, fstI_n (by omega) (fun q9 => h42 (by rw [hd]; exact of_decide_eq_true q9))]) rfl
            · refine j_iload_n (pc' := 46) (z := i) dX11_gone_45 rfl rfl ?_
              exact j_iret dX11_gone_46 rfl (jC_of (by rw [hv, fstI_y (by omega) (decide_eq_true (by rw [← hd]; exact h42))]) hT.digits)
      exact lp31 _ F1 0 (by omega) (by exact hg1) (by rw [hd1]; simp) (by unfold goneA; rw [if_pos (by omega)]; rfl) rfl
    · refine j_iconst (pc' := 21) dX11_gone_20 rfl ?_
      exact j_iret dX11_gone_21 rfl (jC_of (by unfold goneA; rw [if_neg (by omega)]) hT)
def okStr (a b sz : Int) : Prop := 0 ≤ a ∧ 0 ≤ b ∧ a ≤ sz ∧ b ≤ sz - a
def copyA (sh : Int → Int → Int) (d i e j n : Int) : Int := if ¬ ((0 ≤ d ∧ d ≤ 7) ∧ (0 ≤ e ∧ e ≤ 7)) then -1 else if sh 0 d = 0 ∨ sh 0 e = 0 then -11 else if sh 0 d = 1 ∨ sh 0 e = 1 ∨ sh 3 d ≠ sh 3 e then -12 else if (0 ≤ i ∧ 0 ≤ n ∧ i ≤ sh 4 d ∧ n ≤ sh 4 d - i) ∧ (0 ≤ j ∧ 0 ≤ n ∧ j ≤ sh 4 e ∧ n ≤ sh 4 e - j) then n else -13
def copyE (sh E : Int → Int → Int) (d i e j n : Int) : Int → Int → Int := if 0 ≤ copyA sh d i e j n then elU E e (cpyI (E d) (E e) i j n) else E
theorem copyA_1 {sh : Int → Int → Int} {d i e j n : Int} (h : ¬ ((0 ≤ d ∧ d ≤ 7) ∧ (0 ≤ e ∧ e ≤ 7))) : copyA sh d i e j n = -1 := by unfold copyA; rw [if_pos h]
theorem copyA_2 {sh : Int → Int → Int} {d i e j n : Int} (h : (0 ≤ d ∧ d ≤ 7) ∧ (0 ≤ e ∧ e ≤ 7)) (h2 : sh 0 d = 0 ∨ sh 0 e = 0) : copyA sh d i e j n = -11 := by unfold copyA; rw [if_neg (fun q => q h), if_pos h2]
theorem copyA_3 {sh : Int → Int → Int} {d i e j n : Int} (h : (0 ≤ d ∧ d ≤ 7) ∧ (0 ≤ e ∧ e ≤ 7)) (h2 : ¬ (sh 0 d = 0 ∨ sh 0 e = 0)) (h3 : sh 0 d = 1 ∨ sh 0 e = 1 ∨ sh 3 d ≠ sh 3 e) : copyA sh d i e j n = -12 := by unfold copyA; rw [if_neg (fun q => q h), if_neg h2, if_pos h3]
theorem copyA_4 {sh : Int → Int → Int} {d i e j n : Int} (h : (0 ≤ d ∧ d ≤ 7) ∧ (0 ≤ e ∧ e ≤ 7)) (h2 : ¬ (sh 0 d = 0 ∨ sh 0 e = 0)) (h3 : ¬ (sh 0 d = 1 ∨ sh 0 e = 1 ∨ sh 3 d ≠ sh 3 e)) (h4 : ¬ ((0 ≤ i ∧ 0 ≤ n ∧ i ≤ sh 4 d ∧ n ≤ sh 4 d - i) ∧ (0 ≤ j ∧ 0 ≤ n ∧ j ≤ sh 4 e ∧ n ≤ sh 4 e - j))) : copyA sh d i e j n = -13 := by unfold copyA; rw [if_neg (fun q => q h), if_neg h2, if_neg h3, if_neg h4]
theorem copyA_5 {sh : Int → Int → Int} {d i e j n : Int} (h : (0 ≤ d ∧ d ≤ 7) ∧ (0 ≤ e ∧ e ≤ 7)) (h2 : ¬ (sh 0 d = 0 ∨ sh 0 e = 0)) (h3 : ¬ (sh 0 d = 1 ∨ sh 0 e = 1 ∨ sh 3 d ≠ sh 3 e)) (h4 : (0 ≤ i ∧ 0 ≤ n ∧ i ≤ sh 4 d ∧ n ≤ sh 4 d - i) ∧ (0 ≤ j ∧ 0 ≤ n ∧ j ≤ sh 4 e ∧ n ≤ sh 4 e - j)) : copyA sh d i e j n = n := by unfold copyA; rw [if_neg (fun q => q h), if_neg h2, if_neg h3, if_pos h4]
theorem copyE_n {sh E : Int → Int → Int} {d i e j n x : Int} (h : copyA sh d i e j n = x) (hx : x < 0) : copyE sh E d i e j n = E := if_neg (by omega)
theorem copyE_y {sh E : Int → Int → Int} {d i e j n x : Int} (h : copyA sh d i e j n = x) (hx : 0 ≤ x) : copyE sh E d i e j n = elU E e (cpyI (E d) (E e) i j n) := if_pos (by omega)
set_option maxRecDepth 100000 in
set_option maxHeartbeats 4000000 in
theorem c_Top_copy {l : Launch} {w : AW} {D Di : Int → Int → Int} {n mi hi ni mj : Int} {sh E : Int → Int → Int} {d i e j x : Int} (hW : Comp w D n mi hi Di ni mj sh E) (hB : CarOK D n mi) (hI : CarOK Di ni mj) (hhi : hi = 0 ∨ hi = 1) (hsh : ShOK sh E) (hd : inI d) (hi9 : inI i) (he : inI e) (hj : inI j) (hx : inI x) : Call l m_Top_copy false 68 68 [aR 0, aI d, aI i, aI e, aI j, aI x] w (jC w (copyA sh d i e j x) D n mi hi Di ni mj sh (copyE sh E d i e j x)) := by
  have hT := TS.rf hW
  obtain ⟨hO, hK, hC, ⟨Dt, nt, mt, hCt⟩, hCi, hS34, hSh, ⟨po, hPo⟩, ⟨di, hDi⟩⟩ := hW
  obtain ⟨hn, hD, hs0, hs1, hs2, hs3⟩ := id hB
  refine Call.of (L := [some (aR 0), some (aI d), some (aI i), some (aI e), some (aI j), some (aI x), none, none]) rfl (Nat.le_of_ble_eq_true rfl) rfl (fun G ad => ?_)
  refine j_iload_n (pc' := 1) (z := d) dX11_copy_0 rfl rfl ?_
  refine j_callS (pc' := 4) (as := [aI d]) (rest := []) dX11_copy_1 rfl s_Top_120 (c_isShelf (by omega)) rfl rfl rfl (jdet (st' := [aB (0 ≤ d ∧ d ≤ 7)]) rfl ?_)
  refine j_ifb_eq (tgt := 14) (pc' := 7) dX11_copy_4 (by decide) rfl (fun h4 => ?_) (fun h4 => ?_)
  · refine j_iconst (pc' := 15) dX11_copy_14 rfl ?_
    exact j_iret dX11_copy_15 rfl (jC_of (by rw [copyA_1 (by omega)]) (by have h9 := copyA_1 (sh := sh) (d := d) (i := i) (e := e) (j := j) (n := x) (by omega); rw [copyE_n h9 (by omega)]; exact hT))
  · refine j_iload_n (pc' := 8) (z := e) dX11_copy_7 rfl rfl ?_
    refine j_callS (pc' := 11) (as := [aI e]) (rest := []) dX11_copy_8 rfl s_Top_120 (c_isShelf (by omega)) rfl rfl rfl (jdet (st' := [aB (0 ≤ e ∧ e ≤ 7)]) rfl ?_)
    refine j_ifb_ne (tgt := 16) (pc' := 14) dX11_copy_11 (by decide) rfl (fun h11 => ?_) (fun h11 => ?_)
    · have hde : (0 ≤ d ∧ d ≤ 7) ∧ (0 ≤ e ∧ e ≤ 7) := by omega
      obtain ⟨q1, q2, q3, q4, q5, q6⟩ := id (hsh d hde.1)
      obtain ⟨r1, r2, r3, r4, r5, r6⟩ := id (hsh e hde.2)
      have hrd : refR (sh 0 d) = 0 ↔ sh 0 d = 2 := by unfold refR; (repeat' split) <;> omega
      have hre : refR (sh 0 e) = 0 ↔ sh 0 e = 2 := by unfold refR; (repeat' split) <;> omega
      have hrb1 : -12 ≤ refR (sh 0 d) ∧ refR (sh 0 d) ≤ 0 := by unfold refR; (repeat' split) <;> omega
      have hrb2 : -12 ≤ refR (sh 0 e) ∧ refR (sh 0 e) ≤ 0 := by unfold refR; (repeat' split) <;> omega
      refine j_aload_n (pc' := 17) (z := 0) dX11_copy_16 rfl rfl ?_
      refine j_get (pc' := 20) (v := aR 34) dX11_copy_17 rfl f_Top_58 (by omega) hO rfl ?_
      refine j_iload_n (pc' := 21) (z := d) dX11_copy_20 rfl rfl ?_
      refine j_aald (pc' := 22) (r := (35 + 2 * (d).toNat)) (Cn := "RattleAtFifty$Shelf") dX11_copy_21 rfl (by omega) hS34 rfl (by omega) (by decide) rfl ?_
      refine j_astore (pc' := 24) (L' := [some (aR 0), some (aI d), some (aI i), some (aI e), some (aI j), some (aI x), some (aR (35 + 2 * (d).toNat)), none]) dX11_copy_22 rfl (by decide) rfl ?_
      refine j_aload_n (pc' := 25) (z := 0) dX11_copy_24 rfl rfl ?_
      refine j_get (pc' := 28) (v := aR 34) dX11_copy_25 rfl f_Top_58 (by omega) hO rfl ?_
      refine j_iload_n (pc' := 29) (z := e) dX11_copy_28 rfl rfl ?_
      refine j_aald (pc' := 30) (r := (35 + 2 * (e).toNat)) (Cn := "RattleAtFifty$Shelf") dX11_copy_29 rfl (by omega) hS34 rfl (by omega) (by decide) rfl ?_
      refine j_astore (pc' := 32) (L' := [some (aR 0), some (aI d), some (aI i), some (aI e), some (aI j), some (aI x), some (aR (35 + 2 * (d).toNat)), some (aR (35 + 2 * (e).toNat))]) dX11_copy_30 rfl (by decide) rfl ?_
      refine j_aload (pc' := 34) (z := (35 + 2 * (d).toNat)) dX11_copy_32 rfl rfl ?_
      refine j_callV (pc' := 37) (as := []) (rest := []) dX11_copy_34 rfl s_Top_344 (c_Shelf_isEmpty (hSh d (by omega)) (hsh d (by omega)) (by omega)) (by omega) (hSh d (by omega)).1 rfl rfl rfl rfl (jdet (st' := [aB (sh 0 d = 0)]) rfl ?_)
      refine j_ifb_ne (tgt := 48) (pc' := 40) dX11_copy_37 (by decide) rfl (fun h37 => ?_) (fun h37 => ?_)
      · refine j_bipush (pc' := 50) dX11_copy_48 rfl (by decide) ?_
        exact j_iret dX11_copy_50 rfl (jC_of (by rw [copyA_2 hde (by omega)]) (by have h9 := copyA_2 (sh := sh) (d := d) (i := i) (e := e) (j := j) (n := x) hde (by omega); rw [copyE_n h9 (by omega)]; exact hT))
      · refine j_aload (pc' := 42) (z := (35 + 2 * (e).toNat)) dX11_copy_40 rfl rfl ?_
        refine j_callV (pc' := 45) (as := []) (rest := []) dX11_copy_42 rfl s_Top_344 (c_Shelf_isEmpty (hSh e (by omega)) (hsh e (by omega)) (by omega)) (by omega) (hSh e (by omega)).1 rfl rfl rfl rfl (jdet (st' := [aB (sh 0 e = 0)]) rfl ?_)
        refine j_ifb_eq (tgt := 51) (pc' := 48) dX11_copy_45 (by decide) rfl (fun h45 => ?_) (fun h45 => ?_)
        · refine j_aload (pc' := 53) (z := (35 + 2 * (d).toNat)) dX11_copy_51 rfl rfl ?_
          refine j_callV (pc' := 56) (as := []) (rest := []) dX11_copy_53 rfl s_Top_336 (c_Shelf_refusalAsRow (hSh d (by omega)) (hsh d (by omega)) (by omega)) (by omega) (hSh d (by omega)).1 rfl rfl rfl rfl (jdet (st' := [aI (refR (sh 0 d))]) rfl ?_)
          refine j_if_ne (tgt := 80) (pc' := 59) dX11_copy_56 (by decide) rfl (by omega) (fun h56 => ?_) (fun h56 => ?_)
          · refine j_bipush (pc' := 82) dX11_copy_80 rfl (by decide) ?_
            exact j_iret dX11_copy_82 rfl (jC_of (by rw [copyA_3 hde (by omega) (by omega)]) (by have h9 := copyA_3 (sh := sh) (d := d) (i := i) (e := e) (j := j) (n := x) hde (by omega) (by omega); rw [copyE_n h9 (by omega)]; exact hT))
          · refine j_aload (pc' := 61) (z := (35 + 2 * (e).toNat)) dX11_copy_59 rfl rfl ?_
            refine j_callV (pc' := 64) (as := []) (rest := []) dX11_copy_61 rfl s_Top_336 (c_Shelf_refusalAsRow (hSh e (by omega)) (hsh e (by omega)) (by omega)) (by omega) (hSh e (by omega)).1 rfl rfl rfl rfl (jdet (st' := [aI (refR (sh 0 e))]) rfl ?_)
            refine j_if_ne (tgt := 80) (pc' := 67) dX11_copy_64 (by decide) rfl (by omega) (fun h64 => ?_) (fun h64 => ?_)
            · refine j_bipush (pc' := 82) dX11_copy_80 rfl (by decide) ?_
              exact j_iret dX11_copy_82 rfl (jC_of (by rw [copyA_3 hde (by omega) (by omega)]) (by have h9 := copyA_3 (sh := sh) (d := d) (i := i) (e := e) (j := j) (n := x) hde (by omega) (by omega); rw [copyE_n h9 (by omega)]; exact hT))
            · refine j_aload (pc' := 69) (z := (35 + 2 * (d).toNat)) dX11_copy_67 rfl rfl ?_
              refine j_get (pc' := 72) (v := aI (sh 3 d)) dX11_copy_69 rfl f_Top_74 (by omega) (hSh d (by omega)).1 rfl ?_
              refine j_aload (pc' := 74) (z := (35 + 2 * (e).toNat)) dX11_copy_72 rfl rfl ?_
              refine j_get (pc' := 77) (v := aI (sh 3 e)) dX11_copy_74 rfl f_Top_74 (by omega) (hSh e (by omega)).1 rfl ?_
              refine j_icmp_eq (tgt := 83) (pc' := 80) dX11_copy_77 (by decide) rfl (by omega) (by omega) (fun h77 => ?_) (fun h77 => ?_)
              · refine j_aload (pc' := 85) (z := (35 + 2 * (d).toNat)) dX11_copy_83 rfl rfl ?_
                refine j_iload_n (pc' := 86) (z := i) dX11_copy_85 rfl rfl ?_
                refine j_iload (pc' := 88) (z := x) dX11_copy_86 rfl rfl ?_
                refine j_callV (pc' := 91) (as := [aI i, aI x]) (rest := []) dX11_copy_88 rfl s_Top_347 (c_Shelf_hasStretch (hSh d (by omega)) (hsh d (by omega)) (by omega) (by omega) (by omega)) (by omega) (hSh d (by omega)).1 rfl rfl rfl rfl (jdet (st' := [aB (0 ≤ i ∧ 0 ≤ x ∧ i ≤ sh 4 d ∧ x ≤ sh 4 d - i)]) rfl ?_)
                refine j_ifb_eq (tgt := 106) (pc' := 94) dX11_copy_91 (by decide) rfl (fun h91 => ?_) (fun h91 => ?_)
                · refine j_bipush (pc' := 108) dX11_copy_106 rfl (by decide) ?_
                  exact j_iret dX11_copy_108 rfl (jC_of (by rw [copyA_4 hde (by omega) (by omega) (by omega)]) (by have h9 := copyA_4 (sh := sh) (d := d) (i := i) (e := e) (j := j) (n := x) hde (by omega) (by omega) (by omega); rw [copyE_n h9 (by omega)]; exact hT))
                · refine j_aload (pc' := 96) (z := (35 + 2 * (e).toNat)) dX11_copy_94 rfl rfl ?_
                  refine j_iload (pc' := 98) (z := j) dX11_copy_96 rfl rfl ?_
                  refine j_iload (pc' := 100) (z := x) dX11_copy_98 rfl rfl ?_
                  refine j_callV (pc' := 103) (as := [aI j, aI x]) (rest := []) dX11_copy_100 rfl s_Top_347 (c_Shelf_hasStretch (hSh e (by omega)) (hsh e (by omega)) (by omega) (by omega) (by omega)) (by omega) (hSh e (by omega)).1 rfl rfl rfl rfl (jdet (st' := [aB (0 ≤ j ∧ 0 ≤ x ∧ j ≤ sh 4 e ∧ x ≤ sh 4 e - j)]) rfl ?_)
                  refine j_ifb_ne (tgt := 109) (pc' := 106) dX11_copy_103 (by decide) rfl (fun h103 => ?_) (fun h103 => ?_)
                  · refine j_aload (pc' := 111) (z := (35 + 2 * (d).toNat)) dX11_copy_109 rfl rfl ?_
                    refine j_get (pc' := 114) (v := aR (35 + 2 * (d).toNat + 1)) dX11_copy_111 rfl f_Top_262 (by omega) (hSh d (by omega)).1 rfl ?_
                    refine j_iload_n (pc' := 115) (z := i) dX11_copy_114 rfl rfl ?_
                    refine j_aload (pc' := 117) (z := (35 + 2 * (e).toNat)) dX11_copy_115 rfl rfl ?_
                    refine j_get (pc' := 120) (v := aR (35 + 2 * (e).toNat + 1)) dX11_copy_117 rfl f_Top_262 (by omega) (hSh e (by omega)).1 rfl ?_
                    refine j_iload (pc' := 122) (z := j) dX11_copy_120 rfl rfl ?_
                    refine j_iload (pc' := 124) (z := x) dX11_copy_122 rfl rfl ?_
                    refine j_acopy (pc' := 127) rfl dX11_copy_124 rfl s_Top_351 rfl (by omega) (by omega) (hSh d (by omega)).2 (hSh e (by omega)).2 (by omega) (by omega) (by omega) (by omega) (by omega) (by decide) (by decide) ?_
                    refine j_iload (pc' := 129) (z := x) dX11_copy_127 rfl rfl ?_
                    exact j_iret dX11_copy_129 rfl (jC_of (by rw [copyA_5 hde (by omega) (by omega) (by omega)]) (by rw [copyE_y (copyA_5 hde (by omega) (by omega) (by omega)) (by omega)]; exact shU_id (hT.shelf (d := e) (ct := sh 0 e) (k := sh 1 e) (f := sh 2 e) (so := sh 3 e) (sz := sh 4 e) (F := cpyI (E d) (E e) i j x) (by omega) ⟨by simp [up, (hSh e (by omega)).1], by simp [up]⟩ (fun j g1 g2 => by simp only [up]; (repeat' split) <;> first | rfl | (exfalso; omega)))))
                  · refine j_bipush (pc' := 108) dX11_copy_106 rfl (by decide) ?_
                    exact j_iret dX11_copy_108 rfl (jC_of (by rw [copyA_4 hde (by omega) (by omega) (by omega)]) (by have h9 := copyA_4 (sh := sh) (d := d) (i := i) (e := e) (j := j) (n := x) hde (by omega) (by omega) (by omega); rw [copyE_n h9 (by omega)]; exact hT))
              · refine j_bipush (pc' := 82) dX11_copy_80 rfl (by decide) ?_
                exact j_iret dX11_copy_82 rfl (jC_of (by rw [copyA_3 hde (by omega) (by omega)]) (by have h9 := copyA_3 (sh := sh) (d := d) (i := i) (e := e) (j := j) (n := x) hde (by omega) (by omega); rw [copyE_n h9 (by omega)]; exact hT))
        · refine j_bipush (pc' := 50) dX11_copy_48 rfl (by decide) ?_
          exact j_iret dX11_copy_50 rfl (jC_of (by rw [copyA_2 hde (by omega)]) (by have h9 := copyA_2 (sh := sh) (d := d) (i := i) (e := e) (j := j) (n := x) hde (by omega); rw [copyE_n h9 (by omega)]; exact hT))
    · refine j_iconst (pc' := 15) dX11_copy_14 rfl ?_
      exact j_iret dX11_copy_15 rfl (jC_of (by rw [copyA_1 (by omega)]) (by have h9 := copyA_1 (sh := sh) (d := d) (i := i) (e := e) (j := j) (n := x) (by omega); rw [copyE_n h9 (by omega)]; exact hT))
