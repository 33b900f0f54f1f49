-- ===== the text of a road =====
def digB (c : Int) : Int := if c = 112 then 4 else if c = 115 ∨ c = 114 ∨ c = 100 then 2 else if c = 99 ∨ c = 108 ∨ c = 104 ∨ c = 119 ∨ c = 111 ∨ c = 116 then 1 else 0
theorem digB_bd {c : Int} : 0 ≤ digB c ∧ digB c ≤ 4 := by unfold digB; (repeat' split) <;> omega
theorem digB_let {c : Int} (h : 0 < digB c) : c = 99 ∨ c = 100 ∨ c = 104 ∨ c = 108 ∨ c = 111 ∨ c = 112 ∨ c = 114 ∨ c = 115 ∨ c = 116 ∨ c = 119 := by
  unfold digB at h; (repeat' split at h) <;> omega
/-- from place i with m digits to come: the place of the fault, or -1 -/
def sfr (E : Int → Int) (sz : Int) : Nat → Int → Int
  | 0, i => if i < sz ∧ E i = 59 then -1 else i
  | m + 1, i => if i < sz ∧ (48 ≤ E i ∧ E i ≤ 57) then sfr E sz m (i + 1) else i
def sf (E : Int → Int) (sz a : Int) : Int := if a < sz ∧ 0 < digB (E a) then sfr E sz (digB (E a)).toNat (a + 1) else a
def ffN (E : Int → Int) (sz : Int) : Nat → Int → Int
  | 0, _ => -1
  | k + 1, a => if a < sz then (if 0 ≤ sf E sz a then sf E sz a else ffN E sz k (a + digB (E a) + 2)) else -1
def formF (E : Int → Int) (sz : Int) : Int := if sz = 0 then 0 else ffN E sz sz.toNat 0
theorem sfr_0y {E : Int → Int} {sz i : Int} (h : i < sz ∧ E i = 59) : sfr E sz 0 i = -1 := by unfold sfr; rw [if_pos h]
theorem sfr_0n {E : Int → Int} {sz i : Int} (h : ¬ (i < sz ∧ E i = 59)) : sfr E sz 0 i = i := by unfold sfr; rw [if_neg h]
theorem sfr_sy {E : Int → Int} {sz i : Int} {m : Nat} (h : i < sz ∧ (48 ≤ E i ∧ E i ≤ 57)) : sfr E sz (m + 1) i = sfr E sz m (i + 1) := by rw [sfr, if_pos h]
theorem sfr_sn {E : Int → Int} {sz i : Int} {m : Nat} (h : ¬ (i < sz ∧ (48 ≤ E i ∧ E i ≤ 57))) : sfr E sz (m + 1) i = i := by rw [sfr, if_neg h]
theorem sfr_bd {E : Int → Int} {sz : Int} : ∀ (m : Nat) (i : Int), 0 ≤ i → i ≤ sz → sfr E sz m i = -1 ∨ (i ≤ sfr E sz m i ∧ sfr E sz m i ≤ sz)
  | 0, i, h, h2 => by unfold sfr; split <;> omega
  | m + 1, i, h, h2 => by
    rw [sfr]
    split
    · have := sfr_bd (E := E) (sz := sz) m (i + 1) (by omega) (by omega)
      omega
    · omega
theorem sfr_end {E : Int → Int} {sz i : Int} (m : Nat) (h : sz ≤ i) : sfr E sz m i = i := by
  cases m with
  | zero => rw [sfr, if_neg (by omega)]
  | succ m => rw [sfr, if_neg (by omega)]
theorem sfr_ok {E : Int → Int} {sz : Int} : ∀ (m : Nat) (i : Int), 0 ≤ i → sfr E sz m i < 0 → (∀ k : Int, 0 ≤ k → k < m → (0 ≤ i + k ∧ i + k < sz) ∧ 48 ≤ E (i + k) ∧ E (i + k) ≤ 57) ∧ i + m < sz ∧ E (i + m) = 59
  | 0, i, h, h2 => by
    unfold sfr at h2
    split at h2
    · rename_i h3
      refine ⟨fun k h4 h5 => by omega, ?_⟩
      rw [show i + ((0 : Nat) : Int) = i by omega]
      exact h3
    · omega
  | m + 1, i, h, h2 => by
    rw [sfr] at h2
    split at h2
    · rename_i h3
      have h4 := sfr_ok (E := E) (sz := sz) m (i + 1) (by omega) h2
      rw [show i + 1 + (m : Int) = i + ((m + 1 : Nat) : Int) by omega] at h4
      refine ⟨fun k h5 h6 => ?_, h4.2⟩
      by_cases hk : k = 0
      · subst hk; rw [Int.add_zero]; exact ⟨⟨h, h3.1⟩, h3.2⟩
      · have := h4.1 (k - 1) (by omega) (by omega)
        rw [show i + 1 + (k - 1) = i + k by omega] at this
        exact this
    · omega
theorem sf_ok {E : Int → Int} {sz a : Int} (h0 : 0 ≤ a) (h : sf E sz a < 0) : (a < sz ∧ 0 < digB (E a)) ∧ (∀ k : Int, 0 ≤ k → k < digB (E a) → (0 ≤ a + 1 + k ∧ a + 1 + k < sz) ∧ 48 ≤ E (a + 1 + k) ∧ E (a + 1 + k) ≤ 57) ∧ a + digB (E a) + 1 < sz ∧ E (a + digB (E a) + 1) = 59 := by
  unfold sf at h
  split at h
  · rename_i h1
    have h2 := sfr_ok _ _ (by omega) h
    have e : ((digB (E a)).toNat : Int) = digB (E a) := by omega
    rw [e, show a + 1 + digB (E a) = a + digB (E a) + 1 by omega] at h2
    exact ⟨h1, h2⟩
  · omega
theorem sf_bd {E : Int → Int} {sz a : Int} (h0 : 0 ≤ a ∧ a ≤ sz) : sf E sz a = -1 ∨ (a ≤ sf E sz a ∧ sf E sz a ≤ sz) := by
  unfold sf
  split
  · have := sfr_bd (E := E) (sz := sz) (digB (E a)).toNat (a + 1) (by omega) (by omega)
    omega
  · omega
theorem ffN_y {E : Int → Int} {sz a : Int} {k : Nat} (h : a < sz) (h2 : 0 ≤ sf E sz a) : ffN E sz (k + 1) a = sf E sz a := by rw [ffN, if_pos h, if_pos h2]
theorem ffN_n {E : Int → Int} {sz a : Int} {k : Nat} (h : a < sz) (h2 : ¬ 0 ≤ sf E sz a) : ffN E sz (k + 1) a = ffN E sz k (a + digB (E a) + 2) := by rw [ffN, if_pos h, if_neg h2]
theorem ffN_z {E : Int → Int} {sz a : Int} {k : Nat} (h : sz ≤ a) : ffN E sz k a = -1 := by
  cases k with
  | zero => rfl
  | succ k => rw [ffN, if_neg (by omega)]
theorem ffN_bd {E : Int → Int} {sz : Int} : ∀ (k : Nat) (a : Int), 0 ≤ a → ffN E sz k a = -1 ∨ (a ≤ ffN E sz k a ∧ ffN E sz k a ≤ sz)
  | 0, a, h => Or.inl rfl
  | k + 1, a, h => by
    rw [ffN]
    split
    · rename_i h1
      have h2 := sf_bd (E := E) (sz := sz) (a := a) (by omega)
      split
      · omega
      · have := ffN_bd (E := E) (sz := sz) k (a + digB (E a) + 2) (by have := digB_bd (c := E a); omega)
        have := digB_bd (c := E a)
        omega
    · exact Or.inl rfl
abbrev CS : Type := (Int → Int → Int) × Int × Int
def stp (c v : Int) (x : CS) : Int × CS :=
  if c = 112 then (tiR x.2.1 (v / 1000) (v / 100 % 10) (v / 10 % 10) (v % 10), (tiD x.1 x.2.1 (v / 1000) (v / 100 % 10) (v / 10 % 10) (v % 10), tiN x.2.1 (v / 1000) (v / 100 % 10) (v / 10 % 10) (v % 10), x.2.2))
  else if c = 115 then (chR x.1 0 v, (chD x.1 0 v, x.2.1, x.2.2))
  else if c = 99 then (chR x.1 1 v, (chD x.1 1 v, x.2.1, x.2.2))
  else if c = 108 then (chR x.1 2 v, (chD x.1 2 v, x.2.1, x.2.2))
  else if c = 114 then (chR x.1 3 v, (chD x.1 3 v, x.2.1, x.2.2))
  else if c = 104 then (holdR x.1 x.2.1 v, (holdD x.1 x.2.1 v, x.2.1, x.2.2))
  else if c = 119 then (wedR x.1 x.2.1 v, (wedD x.1 x.2.1 v, x.2.1, x.2.2))
  else if c = 111 then (outR x.1 x.2.1 v, (outD x.1 x.2.1 v, x.2.1, x.2.2))
  else if c = 116 then (scrR x.1 x.2.1 v, (scwD x.1 x.2.1 v, x.2.1, x.2.2))
  else (drR x.2.2 v, (drD x.1 x.2.1 x.2.2 v, x.2.1, drM x.2.2 v))
def stq (E : Int → Int) (a : Int) (x : CS) : Int × CS := stp (E a) (numF E (a + 1) (digB (E a))) x
def fol (E : Int → Int) (sz : Int) : Nat → Int → Int → CS → Int × CS
  | 0, _, s, x => (s, x)
  | k + 1, a, s, x => if a < sz then (if 0 ≤ (stq E a x).1 then fol E sz k (a + digB (E a) + 2) (s + 1) (stq E a x).2 else (-2000 - a, (stq E a x).2)) else (s, x)
def folA (E : Int → Int) (sz : Int) (x : CS) : Int × CS := fol E sz sz.toNat 0 0 x
theorem fol_y {E : Int → Int} {sz a s : Int} {k : Nat} {x : CS} (h : a < sz) (h2 : 0 ≤ (stq E a x).1) : fol E sz (k + 1) a s x = fol E sz k (a + digB (E a) + 2) (s + 1) (stq E a x).2 := by rw [fol, if_pos h, if_pos h2]
theorem fol_n {E : Int → Int} {sz a s : Int} {k : Nat} {x : CS} (h : a < sz) (h2 : ¬ 0 ≤ (stq E a x).1) : fol E sz (k + 1) a s x = (-2000 - a, (stq E a x).2) := by rw [fol, if_pos h, if_neg h2]
theorem fol_z {E : Int → Int} {sz a s : Int} {k : Nat} {x : CS} (h : sz ≤ a) : fol E sz k a s x = (s, x) := by
  cases k with
  | zero => rfl
  | succ k => rw [fol, if_neg (by omega)]
def CSOK (x : CS) : Prop := CarOK x.1 x.2.1 x.2.2 ∧ WdOK x.1
theorem stp_ok {c v : Int} {x : CS} (h : CSOK x) : CSOK (stp c v x).2 := by
  obtain ⟨hB, hW⟩ := h
  unfold stp
  (repeat' split)
  · exact ⟨hB.ti, hW.ti⟩
  · exact ⟨hB.chd, hW.chd⟩
  · exact ⟨hB.chd, hW.chd⟩
  · exact ⟨hB.chd, hW.chd⟩
  · exact ⟨hB.chd, hW.chd⟩
  · exact ⟨hB.hold, hW.hold⟩
  · exact ⟨hB.wed, hW.wed⟩
  · exact ⟨hB.out, hW.out⟩
  · exact ⟨hB.scw, hW.scw⟩
  · exact ⟨hB.dr hW, hW.dr⟩
theorem fol_ok {E : Int → Int} {sz : Int} : ∀ (k : Nat) (a s : Int) (x : CS), CSOK x → CSOK (fol E sz k a s x).2
  | 0, a, s, x, h => h
  | k + 1, a, s, x, h => by
    rw [fol]
    split
    · split
      · exact fol_ok k _ _ _ (stp_ok h)
      · exact stp_ok h
    · exact h
theorem numF_bd {E : Int → Int} {a m : Int} (h0 : 0 ≤ m ∧ m ≤ 4) (h : ∀ k, 0 ≤ k → k < m → 48 ≤ E (a + k) ∧ E (a + k) ≤ 57) : 0 ≤ numF E a m ∧ numF E a m ≤ 9999 := by
  rcases (show m = 0 ∨ m = 1 ∨ m = 2 ∨ m = 3 ∨ m = 4 by omega) with rfl | rfl | rfl | rfl | rfl
  · have e : numF E a 0 = 0 := rfl
    omega
  · have e : numF E a 1 = 10 * 0 + E (a + 0) - 48 := rfl
    have := h 0 (by omega) (by omega)
    omega
  · have e : numF E a 2 = 10 * (10 * 0 + E (a + 0) - 48) + E (a + 1) - 48 := rfl
    have := h 0 (by omega) (by omega)
    have := h 1 (by omega) (by omega)
    omega
  · have e : numF E a 3 = 10 * (10 * (10 * 0 + E (a + 0) - 48) + E (a + 1) - 48) + E (a + 2) - 48 := rfl
    have := h 0 (by omega) (by omega)
    have := h 1 (by omega) (by omega)
    have := h 2 (by omega) (by omega)
    omega
  · have e : numF E a 4 = 10 * (10 * (10 * (10 * 0 + E (a + 0) - 48) + E (a + 1) - 48) + E (a + 2) - 48) + E (a + 3) - 48 := rfl
    have := h 0 (by omega) (by omega)
    have := h 1 (by omega) (by omega)
    have := h 2 (by omega) (by omega)
    have := h 3 (by omega) (by omega)
    omega
theorem stp_bd {c v : Int} {x : CS} (h : CSOK x) : -10 ≤ (stp c v x).1 ∧ (stp c v x).1 ≤ 10000 := by
  obtain ⟨⟨hn, hD, hs0, hs1, hs2, hs3⟩, hW⟩ := h
  have hch : ∀ k, -10 ≤ chR x.1 k v ∧ chR x.1 k v ≤ 10000 := by
    intro k
    unfold chR
    split
    · rename_i h
      rcases (show k = 0 ∨ k = 1 ∨ k = 2 ∨ k = 3 by omega) with rfl | rfl | rfl | rfl <;> omega
    · omega
  unfold stp
  (repeat' split)
  · show -10 ≤ tiR _ _ _ _ _ ∧ tiR _ _ _ _ _ ≤ 10000
    unfold tiR; (repeat' split) <;> omega
  · exact hch 0
  · exact hch 1
  · exact hch 2
  · exact hch 3
  · show -10 ≤ holdR _ _ _ ∧ holdR _ _ _ ≤ 10000
    unfold holdR
    split
    · have := hD v (by omega) (by omega)
      have := secs_bd (k := x.1 0 v) (f := x.1 1 v) (by omega)
      split <;> omega
    · omega
  · show -10 ≤ wedR _ _ _ ∧ wedR _ _ _ ≤ 10000
    unfold wedR
    split
    · have := hD v (by omega) (by omega)
      split <;> omega
    · omega
  · show -10 ≤ outR _ _ _ ∧ outR _ _ _ ≤ 10000
    unfold outR
    (repeat' split) <;> omega
  · show -10 ≤ scrR _ _ _ ∧ scrR _ _ _ ≤ 10000
    unfold scrR
    split
    · rename_i hp
      have hk : CarOK x.1 x.2.1 x.2.2 := ⟨hn, hD, hs0, hs1, hs2, hs3⟩
      have h2 := hk.scr hp
      have hx : 0 ≤ nxt x.2.1 v ∧ nxt x.2.1 v < 7 := by unfold nxt; split <;> omega
      have := (h2.2.1 (nxt x.2.1 v) hx.1 hx.2).2.1
      omega
    · omega
  · show -10 ≤ drR _ _ ∧ drR _ _ ≤ 10000
    unfold drR
    (repeat' split) <;> omega
theorem ff_beg {E : Int → Int} {sz i : Int} {k : Nat} (h : 0 ≤ i ∧ i < sz) (hd : 0 < digB (E i)) (hv : sz - i ≤ (k : Int) ∧ formF E sz = ffN E sz k i) : sz - (i + 1) - digB (E i) - 1 ≤ ((k - 1 : Nat) : Int) ∧ formF E sz = (if 0 ≤ sfr E sz (digB (E i)).toNat (i + 1) then sfr E sz (digB (E i)).toNat (i + 1) else ffN E sz (k - 1) (i + 1 + digB (E i) + 1)) := by
  obtain ⟨h1, h2⟩ := hv
  obtain ⟨k, rfl⟩ : ∃ j, k = j + 1 := ⟨k - 1, by omega⟩
  refine ⟨by omega, ?_⟩
  rw [h2, ffN, if_pos h.2]
  have e : sf E sz i = sfr E sz (digB (E i)).toNat (i + 1) := by unfold sf; rw [if_pos ⟨h.2, hd⟩]
  rw [e, show k + 1 - 1 = k by omega, show i + 1 + digB (E i) + 1 = i + digB (E i) + 2 by omega]
theorem ff_no0 {E : Int → Int} {sz i : Int} {k : Nat} (h : 0 ≤ i ∧ i < sz) (hd : ¬ 0 < digB (E i)) (hv : sz - i ≤ (k : Int) ∧ formF E sz = ffN E sz k i) : formF E sz = i := by
  obtain ⟨h1, h2⟩ := hv
  obtain ⟨k, rfl⟩ : ∃ j, k = j + 1 := ⟨k - 1, by omega⟩
  have e : sf E sz i = i := by unfold sf; rw [if_neg (fun q => hd q.2)]
  rw [h2, ffN, if_pos h.2, e, if_pos h.1]
theorem ff_dig {E : Int → Int} {sz i m : Int} {k : Nat} (h : (0 ≤ i ∧ i < sz) ∧ 48 ≤ E i ∧ E i ≤ 57) (hm : 0 < m) (hv : sz - i - m - 1 ≤ (k : Int) ∧ formF E sz = (if 0 ≤ sfr E sz m.toNat i then sfr E sz m.toNat i else ffN E sz k (i + m + 1))) : sz - (i + 1) - (m + -1) - 1 ≤ (k : Int) ∧ formF E sz = (if 0 ≤ sfr E sz (m + -1).toNat (i + 1) then sfr E sz (m + -1).toNat (i + 1) else ffN E sz k (i + 1 + (m + -1) + 1)) := by
  obtain ⟨h1, h2⟩ := hv
  rw [show m.toNat = (m + -1).toNat + 1 by omega, sfr_sy ⟨h.1.2, h.2⟩] at h2
  rw [show i + 1 + (m + -1) + 1 = i + m + 1 by omega]
  exact ⟨by omega, h2⟩
theorem ff_no1 {E : Int → Int} {sz i m : Int} {k : Nat} (h0 : 0 ≤ i) (h : ¬ ((0 ≤ i ∧ i < sz) ∧ 48 ≤ E i ∧ E i ≤ 57)) (hm : 0 < m) (hv : sz - i - m - 1 ≤ (k : Int) ∧ formF E sz = (if 0 ≤ sfr E sz m.toNat i then sfr E sz m.toNat i else ffN E sz k (i + m + 1))) : formF E sz = i := by
  obtain ⟨h1, h2⟩ := hv
  rw [show m.toNat = (m + -1).toNat + 1 by omega, sfr_sn (fun q => h ⟨⟨h0, q.1⟩, q.2⟩), if_pos h0] at h2
  exact h2
theorem ff_end {E : Int → Int} {sz i m : Int} {k : Nat} (h : (0 ≤ i ∧ i < sz) ∧ E i = 59) (hm : m = 0) (hv : sz - i - m - 1 ≤ (k : Int) ∧ formF E sz = (if 0 ≤ sfr E sz m.toNat i then sfr E sz m.toNat i else ffN E sz k (i + m + 1))) : sz - (i + 1) ≤ (k : Int) ∧ formF E sz = ffN E sz k (i + 1) := by
  obtain ⟨h1, h2⟩ := hv
  subst hm
  rw [show (0 : Int).toNat = 0 from rfl, sfr_0y ⟨h.1.2, h.2⟩, if_neg (by omega), Int.add_zero] at h2
  exact ⟨by omega, h2⟩
theorem ff_no2 {E : Int → Int} {sz i m : Int} {k : Nat} (h0 : 0 ≤ i) (h : ¬ E i = 59) (hm : m = 0) (hv : sz - i - m - 1 ≤ (k : Int) ∧ formF E sz = (if 0 ≤ sfr E sz m.toNat i then sfr E sz m.toNat i else ffN E sz k (i + m + 1))) : formF E sz = i := by
  obtain ⟨h1, h2⟩ := hv
  subst hm
  rw [show (0 : Int).toNat = 0 from rfl, sfr_0n (fun q => h q.2), if_pos h0] at h2
  exact h2
set_option maxRecDepth 100000 in
set_option maxHeartbeats 4000000 in
theorem c_Road_digitsBehind {l : Launch} {w : AW} {c : Int} (hc : inI c) : Call l m_Road_digitsBehind false 68 68 [aI c] w (rt (some (aI (digB c))) w) := by
  refine Call.of (L := [some (aI c)]) rfl (Nat.le_of_ble_eq_true rfl) rfl (fun G ad => ?_)
  refine j_iload_n (pc' := 1) (z := c) dX8_digitsBehind_0 rfl rfl ?_
  have hx1 : -2147483648 ≤ c ∧ c ≤ 2147483647 := (by omega)
  rcases (show c = 99 ∨ c = 100 ∨ c = 101 ∨ c = 102 ∨ c = 103 ∨ c = 104 ∨ c = 105 ∨ c = 106 ∨ c = 107 ∨ c = 108 ∨ c = 109 ∨ c = 110 ∨ c = 111 ∨ c = 112 ∨ c = 113 ∨ c = 114 ∨ c = 115 ∨ c = 116 ∨ c = 117 ∨ c = 118 ∨ c = 119 ∨ (c < 99 ∨ 119 < c) by omega) with h1 | h1 | h1 | h1 | h1 | h1 | h1 | h1 | h1 | h1 | h1 | h1 | h1 | h1 | h1 | h1 | h1 | h1 | h1 | h1 | h1 | h1
  · refine j_tsw (tgt := 104) dX8_digitsBehind_1 hx1 (by omega) (by rw [h1]; rfl) (by decide) ?_
    refine j_iconst (pc' := 105) dX8_digitsBehind_104 rfl ?_
    exact j_iret dX8_digitsBehind_105 rfl (rt_eq (by unfold digB; (repeat' split) <;> first | rfl | omega))
  · refine j_tsw (tgt := 102) dX8_digitsBehind_1 hx1 (by omega) (by rw [h1]; rfl) (by decide) ?_
    refine j_iconst (pc' := 103) dX8_digitsBehind_102 rfl ?_
    exact j_iret dX8_digitsBehind_103 rfl (rt_eq (by unfold digB; (repeat' split) <;> first | rfl | omega))
  · refine j_tsw (tgt := 106) dX8_digitsBehind_1 hx1 (by omega) (by rw [h1]; rfl) (by decide) ?_
    refine j_iconst (pc' := 107) dX8_digitsBehind_106 rfl ?_
    exact j_iret dX8_digitsBehind_107 rfl (rt_eq (by unfold digB; (repeat' split) <;> first | rfl | omega))
  · refine j_tsw (tgt := 106) dX8_digitsBehind_1 hx1 (by omega) (by rw [h1]; rfl) (by decide) ?_
    refine j_iconst (pc' := 107) dX8_digitsBehind_106 rfl ?_
    exact j_iret dX8_digitsBehind_107 rfl (rt_eq (by unfold digB; (repeat' split) <;> first | rfl | omega))
  · refine j_tsw (tgt := 106) dX8_digitsBehind_1 hx1 (by omega) (by rw [h1]; rfl) (by decide) ?_
    refine j_iconst (pc' := 107) dX8_digitsBehind_106 rfl ?_
    exact j_iret dX8_digitsBehind_107 rfl (rt_eq (by unfold digB; (repeat' split) <;> first | rfl | omega))
  · refine j_tsw (tgt := 104) dX8_digitsBehind_1 hx1 (by omega) (by rw [h1]; rfl) (by decide) ?_
    refine j_iconst (pc' := 105) dX8_digitsBehind_104 rfl ?_
    exact j_iret dX8_digitsBehind_105 rfl (rt_eq (by unfold digB; (repeat' split) <;> first | rfl | omega))
  · refine j_tsw (tgt := 106) dX8_digitsBehind_1 hx1 (by omega) (by rw [h1]; rfl) (by decide) ?_
    refine j_iconst (pc' := 107) dX8_digitsBehind_106 rfl ?_
    exact j_iret dX8_digitsBehind_107 rfl (rt_eq (by unfold digB; (repeat' split) <;> first | rfl | omega))
  · refine j_tsw (tgt := 106) dX8_digitsBehind_1 hx1 (by omega) (by rw [h1]; rfl) (by decide) ?_
    refine j_iconst (pc' := 107) dX8_digitsBehind_106 rfl ?_
    exact j_iret dX8_digitsBehind_107 rfl (rt_eq (by unfold digB; (repeat' split) <;> first | rfl | omega))
  · refine j_tsw (tgt := 106) dX8_digitsBehind_1 hx1 (by omega) (by rw [h1]; rfl) (by decide) ?_
    refine j_iconst (pc' := 107) dX8_digitsBehind_106 rfl ?_
    exact j_iret dX8_digitsBehind_107 rfl (rt_eq (by unfold digB; (repeat' split) <;> first | rfl | omega))
  · refine j_tsw (tgt := 104) dX8_digitsBehind_1 hx1 (by omega) (by rw [h1]; rfl) (by decide) ?_
    refine j_iconst (pc' := 105) dX8_digitsBehind_104 rfl ?_
    exact j_iret dX8_digitsBehind_105 rfl (rt_eq (by unfold digB; (repeat' split) <;> first | rfl | omega))
  · refine j_tsw (tgt := 106) dX8_digitsBehind_1 hx1 (by omega) (by rw [h1]; rfl) (by decide) ?_
    refine j_iconst (pc' := 107) dX8_digitsBehind_106 rfl ?_
    exact j_iret dX8_digitsBehind_107 rfl (rt_eq (by unfold digB; (repeat' split) <;> first | rfl | omega))
  · refine j_tsw (tgt := 106) dX8_digitsBehind_1 hx1 (by omega) (by rw [h1]; rfl) (by decide) ?_
    refine j_iconst (pc' := 107) dX8_digitsBehind_106 rfl ?_
    exact j_iret dX8_digitsBehind_107 rfl (rt_eq (by unfold digB; (repeat' split) <;> first | rfl | omega))
  · refine j_tsw (tgt := 104) dX8_digitsBehind_1 hx1 (by omega) (by rw [h1]; rfl) (by decide) ?_
    refine j_iconst (pc' := 105) dX8_digitsBehind_104 rfl ?_
    exact j_iret dX8_digitsBehind_105 rfl (rt_eq (by unfold digB; (repeat' split) <;> first | rfl | omega))
  · refine j_tsw (tgt := 100) dX8_digitsBehind_1 hx1 (by omega) (by rw [h1]; rfl) (by decide) ?_
    refine j_iconst (pc' := 101) dX8_digitsBehind_100 rfl ?_
    exact j_iret dX8_digitsBehind_101 rfl (rt_eq (by unfold digB; (repeat' split) <;> first | rfl | omega))
  · refine j_tsw (tgt := 106) dX8_digitsBehind_1 hx1 (by omega) (by rw [h1]; rfl) (by decide) ?_
    refine j_iconst (pc' := 107) dX8_digitsBehind_106 rfl ?_
    exact j_iret dX8_digitsBehind_107 rfl (rt_eq (by unfold digB; (repeat' split) <;> first | rfl | omega))
  · refine j_tsw (tgt := 102) dX8_digitsBehind_1 hx1 (by omega) (by rw [h1]; rfl) (by decide) ?_
    refine j_iconst (pc' := 103) dX8_digitsBehind_102 rfl ?_
    exact j_iret dX8_digitsBehind_103 rfl (rt_eq (by unfold digB; (repeat' split) <;> first | rfl | omega))
  · refine j_tsw (tgt := 102) dX8_digitsBehind_1 hx1 (by omega) (by rw [h1]; rfl) (by decide) ?_
    refine j_iconst (pc' := 103) dX8_digitsBehind_102 rfl ?_
    exact j_iret dX8_digitsBehind_103 rfl (rt_eq (by unfold digB; (repeat' split) <;> first | rfl | omega))
  · refine j_tsw (tgt := 104) dX8_digitsBehind_1 hx1 (by omega) (by rw [h1]; rfl) (by decide) ?_
    refine j_iconst (pc' := 105) dX8_digitsBehind_104 rfl ?_
    exact j_iret dX8_digitsBehind_105 rfl (rt_eq (by unfold digB; (repeat' split) <;> first | rfl | omega))
  · refine j_tsw (tgt := 106) dX8_digitsBehind_1 hx1 (by omega) (by rw [h1]; rfl) (by decide) ?_
    refine j_iconst (pc' := 107) dX8_digitsBehind_106 rfl ?_
    exact j_iret dX8_digitsBehind_107 rfl (rt_eq (by unfold digB; (repeat' split) <;> first | rfl | omega))
  · refine j_tsw (tgt := 106) dX8_digitsBehind_1 hx1 (by omega) (by rw [h1]; rfl) (by decide) ?_
    refine j_iconst (pc' := 107) dX8_digitsBehind_106 rfl ?_
    exact j_iret dX8_digitsBehind_107 rfl (rt_eq (by unfold digB; (repeat' split) <;> first | rfl | omega))
  · refine j_tsw (tgt := 104) dX8_digitsBehind_1 hx1 (by omega) (by rw [h1]; rfl) (by decide) ?_
    refine j_iconst (pc' := 105) dX8_digitsBehind_104 rfl ?_
    exact j_iret dX8_digitsBehind_105 rfl (rt_eq (by unfold digB; (repeat' split) <;> first | rfl | omega))
  · refine j_tswd (tgt := 106) dX8_digitsBehind_1 hx1 h1 (by decide) ?_
    refine j_iconst (pc' := 107) dX8_digitsBehind_106 rfl ?_
    exact j_iret dX8_digitsBehind_107 rfl (rt_eq (by unfold digB; (repeat' split) <;> first | rfl | omega))
set_option maxRecDepth 100000 in
set_option maxHeartbeats 4000000 in
theorem c_Road_placeOfFormFault {l : Launch} {w : AW} {q : Nat} {ct k f so sz : Int} {E : Int → Int} (hS : ShelfAt w q ct k f so sz E) (hH : ShelfOK ct k f so sz E) (hq : q + 2 ≤ 68) : Call l m_Road_placeOfFormFault false 68 68 [aR q] w (rt (some (aI (formF E sz))) w) := by
  have hS0 := hS
  have hH0 := hH
  obtain ⟨hO2, hE⟩ := hS
  obtain ⟨hct, hkk, hff, hso, hsz, hEb⟩ := hH
  refine Call.of (L := [some (aR q), none, none, none]) rfl (Nat.le_of_ble_eq_true rfl) rfl (fun G ad => ?_)
  refine j_iconst (pc' := 1) dX8_placeOfFormFault_0 rfl ?_
  refine j_istore_n (pc' := 2) (L' := [some (aR q), some (aI 0), none, none]) dX8_placeOfFormFault_1 rfl (by decide) rfl ?_
  refine j_iconst (pc' := 3) dX8_placeOfFormFault_2 rfl ?_
  refine j_istore_n (pc' := 4) (L' := [some (aR q), some (aI 0), some (aI 0), none]) dX8_placeOfFormFault_3 rfl (by decide) rfl ?_
  refine j_iconst (pc' := 5) dX8_placeOfFormFault_4 rfl ?_
  refine j_istore_n (pc' := 6) (L' := [some (aR q), some (aI 0), some (aI 0), some (aI 0)]) dX8_placeOfFormFault_5 rfl (by decide) rfl ?_
  have lp6 : ∀ (k9 : Nat) (b : Int) (m : Int) (i : Int) (kf : Nat), (0 ≤ i ∧ i ≤ sz) → (0 ≤ b ∧ b ≤ 1) → (0 ≤ m ∧ m ≤ 4) → (sz = 0 → b = 0) → (b = 0 → 0 < sz → (sz - i ≤ (kf : Int) ∧ formF E sz = ffN E sz kf i)) → (b = 1 → (sz - i - m - 1 ≤ (kf : Int) ∧ formF E sz = (if 0 ≤ sfr E sz m.toNat i then sfr E sz m.toNat i else ffN E sz kf (i + m + 1)))) → ((sz - i).toNat) = k9 → J l m_Road_placeOfFormFault ad G [] false (jZ ad G false 68 m_Road_placeOfFormFault.2.2.2.2.cells m_Road_placeOfFormFault.2.2.2.2.slots (rt (some (aI (formF E sz))) w)) 68 0 0 6 [some (aR q), some (aI b), some (aI m), some (aI i)] [] w := by
    intro k9
    induction k9 using Nat.strongRecOn with
    | _ k9 ih6 =>
      intro b m i kf hi9 hb hm hz hv0 hv1 hk6
      refine j_iload_n (pc' := 7) (z := i) dX8_placeOfFormFault_6 rfl rfl ?_
      refine j_aload_n (pc' := 8) (z := q) dX8_placeOfFormFault_7 rfl rfl ?_
      refine j_get (pc' := 11) (v := aI sz) dX8_placeOfFormFault_8 rfl f_Road_9 (by omega) hO2 rfl ?_
      refine j_icmp_ge (tgt := 88) (pc' := 14) dX8_placeOfFormFault_11 (by decide) rfl (by omega) (by omega) (fun h11 => ?_) (fun h11 => ?_)
      · refine j_iload_n (pc' := 89) (z := b) dX8_placeOfFormFault_88 rfl rfl ?_
        refine j_if_ne (tgt := 99) (pc' := 92) dX8_placeOfFormFault_89 (by decide) rfl (by omega) (fun h89 => ?_) (fun h89 => ?_)
        · refine j_aload_n (pc' := 100) (z := q) dX8_placeOfFormFault_99 rfl rfl ?_
          refine j_get (pc' := 103) (v := aI sz) dX8_placeOfFormFault_100 rfl f_Road_9 (by omega) hO2 rfl ?_
          refine j_goto (pc' := 107) dX8_placeOfFormFault_103 (by decide) ?_
          exact j_iret dX8_placeOfFormFault_107 rfl (rt_eq (by by_cases hz0 : sz = 0; (unfold formF; rw [if_pos hz0]; try omega); (by_cases hb0 : b = 0; (have e9 := (hv0 hb0 (by omega)).2; rw [ffN_z (by omega)] at e9; omega); (rw [(hv1 (by omega)).2, sfr_end _ (by omega), if_pos (by omega)]; try omega))))
        · refine j_aload_n (pc' := 93) (z := q) dX8_placeOfFormFault_92 rfl rfl ?_
          refine j_get (pc' := 96) (v := aI sz) dX8_placeOfFormFault_93 rfl f_Road_9 (by omega) hO2 rfl ?_
          refine j_if_ne (tgt := 106) (pc' := 99) dX8_placeOfFormFault_96 (by decide) rfl (by omega) (fun h96 => ?_) (fun h96 => ?_)
          · refine j_iconst (pc' := 107) dX8_placeOfFormFault_106 rfl ?_
            exact j_iret dX8_placeOfFormFault_107 rfl (rt_eq (by by_cases hz0 : sz = 0; (unfold formF; rw [if_pos hz0]; try omega); (by_cases hb0 : b = 0; (have e9 := (hv0 hb0 (by omega)).2; rw [ffN_z (by omega)] at e9; omega); (rw [(hv1 (by omega)).2, sfr_end _ (by omega), if_pos (by omega)]; try omega))))
          · refine j_aload_n (pc' := 100) (z := q) dX8_placeOfFormFault_99 rfl rfl ?_
            refine j_get (pc' := 103) (v := aI sz) dX8_placeOfFormFault_100 rfl f_Road_9 (by omega) hO2 rfl ?_
            refine j_goto (pc' := 107) dX8_placeOfFormFault_103 (by decide) ?_
            exact j_iret dX8_placeOfFormFault_107 rfl (rt_eq (by by_cases hz0 : sz = 0; (unfold formF; rw [if_pos hz0]; try omega); (by_cases hb0 : b = 0; (have e9 := (hv0 hb0 (by omega)).2; rw [ffN_z (by omega)] at e9; omega); (rw [(hv1 (by omega)).2, sfr_end _ (by omega), if_pos (by omega)]; try omega))))
      · refine j_iload_n (pc' := 15) (z := b) dX8_placeOfFormFault_14 rfl rfl ?_
        refine j_if_ne (tgt := 44) (pc' := 18) dX8_placeOfFormFault_15 (by decide) rfl (by omega) (fun h15 => ?_) (fun h15 => ?_)
        · refine j_iload_n (pc' := 45) (z := m) dX8_placeOfFormFault_44 rfl rfl ?_
          refine j_if_le (tgt := 64) (pc' := 48) dX8_placeOfFormFault_45 (by decide) rfl (by omega) (fun h45 => ?_) (fun h45 => ?_)
          · have hEi := hEb i (by omega) (by omega)
            refine j_aload_n (pc' := 65) (z := q) dX8_placeOfFormFault_64 rfl rfl ?_
            refine j_get (pc' := 68) (v := aR (q + 1)) dX8_placeOfFormFault_65 rfl f_Road_15 (by omega) hO2 rfl ?_
            refine j_iload_n (pc' := 69) (z := i) dX8_placeOfFormFault_68 rfl rfl ?_
            refine j_iald (pc' := 70) dX8_placeOfFormFault_69 rfl (by omega) hE (by omega) (by decide) ?_
            refine j_bipush (pc' := 72) dX8_placeOfFormFault_70 rfl (by decide) ?_
            refine j_icmp_ne (tgt := 80) (pc' := 75) dX8_placeOfFormFault_72 (by decide) rfl (by omega) (by omega) (fun h72 => ?_) (fun h72 => ?_)
            · refine j_iload_n (pc' := 81) (z := i) dX8_placeOfFormFault_80 rfl rfl ?_
              exact j_iret dX8_placeOfFormFault_81 rfl (rt_eq (by exact (ff_no2 (by omega) (by omega) (by omega) (hv1 (by omega))).symm))
            · refine j_iconst (pc' := 76) dX8_placeOfFormFault_75 rfl ?_
              refine j_istore_n (pc' := 77) (L' := [some (aR q), some (aI 0), some (aI m), some (aI i)]) dX8_placeOfFormFault_76 rfl (by decide) rfl ?_
              refine j_goto (pc' := 82) dX8_placeOfFormFault_77 (by decide) ?_
              refine j_iinc (pc' := 85) (z := i) (L' := [some (aR q), some (aI 0), some (aI m), some (aI (i + 1))]) dX8_placeOfFormFault_82 rfl (by decide) rfl rfl rfl ?_
              refine j_goto (pc' := 6) dX8_placeOfFormFault_85 (by decide) ?_
              exact ih6 _ (by omega) 0 m (i + 1) kf (by omega) (by omega) (by omega) (by omega) (by intro _ _; exact ff_end (by omega) (by omega) (hv1 (by omega))) (by intro g; omega) rfl
          · refine j_aload_n (pc' := 49) (z := q) dX8_placeOfFormFault_48 rfl rfl ?_
            refine j_iload_n (pc' := 50) (z := i) dX8_placeOfFormFault_49 rfl rfl ?_
            refine j_callV (pc' := 53) (as := [aI i]) (rest := []) dX8_placeOfFormFault_50 rfl s_Road_25 (c_Shelf_hasDigit hS0 hH0 hq (by omega)) (by omega) hO2 rfl rfl rfl rfl (jdet (st' := [aB ((0 ≤ i ∧ i < sz) ∧ 48 ≤ E i ∧ E i ≤ 57)]) rfl ?_)
            refine j_ifb_ne (tgt := 58) (pc' := 56) dX8_placeOfFormFault_53 (by decide) rfl (fun h53 => ?_) (fun h53 => ?_)
            · refine j_iinc (pc' := 61) (z := m) (L' := [some (aR q), some (aI b), some (aI (m + (-1))), some (aI i)]) dX8_placeOfFormFault_58 rfl (by decide) rfl rfl rfl ?_
              refine j_goto (pc' := 82) dX8_placeOfFormFault_61 (by decide) ?_
              refine j_iinc (pc' := 85) (z := i) (L' := [some (aR q), some (aI b), some (aI (m + (-1))), some (aI (i + 1))]) dX8_placeOfFormFault_82 rfl (by decide) rfl rfl rfl ?_
              refine j_goto (pc' := 6) dX8_placeOfFormFault_85 (by decide) ?_
              exact ih6 _ (by omega) b (m + (-1)) (i + 1) kf (by omega) (by omega) (by omega) (by omega) (by intro g; omega) (by intro _; exact ff_dig (by omega) (by omega) (hv1 (by omega))) rfl
            · refine j_iload_n (pc' := 57) (z := i) dX8_placeOfFormFault_56 rfl rfl ?_
              exact j_iret dX8_placeOfFormFault_57 rfl (rt_eq (by exact (ff_no1 (by omega) (by omega) (by omega) (hv1 (by omega))).symm))
        · have hEi := hEb i (by omega) (by omega)
          have hdb := digB_bd (c := E i)
          refine j_aload_n (pc' := 19) (z := q) dX8_placeOfFormFault_18 rfl rfl ?_
          refine j_get (pc' := 22) (v := aR (q + 1)) dX8_placeOfFormFault_19 rfl f_Road_15 (by omega) hO2 rfl ?_
          refine j_iload_n (pc' := 23) (z := i) dX8_placeOfFormFault_22 rfl rfl ?_
          refine j_iald (pc' := 24) dX8_placeOfFormFault_23 rfl (by omega) hE (by omega) (by decide) ?_
          refine j_callS (pc' := 27) (as := [aI (E i)]) (rest := []) dX8_placeOfFormFault_24 rfl s_Road_19 (c_Road_digitsBehind (by omega)) rfl rfl rfl (jdet (st' := [aI (digB (E i))]) rfl ?_)
          refine j_istore_n (pc' := 28) (L' := [some (aR q), some (aI b), some (aI (digB (E i))), some (aI i)]) dX8_placeOfFormFault_27 rfl (by decide) rfl ?_
          refine j_iload_n (pc' := 29) (z := (digB (E i))) dX8_placeOfFormFault_28 rfl rfl ?_
          refine j_if_le (tgt := 36) (pc' := 32) dX8_placeOfFormFault_29 (by decide) rfl (by omega) (fun h29 => ?_) (fun h29 => ?_)
          · refine j_iconst (pc' := 37) dX8_placeOfFormFault_36 rfl ?_
            refine j_istore_n (pc' := 38) (L' := [some (aR q), some (aI 0), some (aI (digB (E i))), some (aI i)]) dX8_placeOfFormFault_37 rfl (by decide) rfl ?_
            refine j_iload_n (pc' := 39) (z := 0) dX8_placeOfFormFault_38 rfl rfl ?_
            refine j_if_ne (tgt := 82) (pc' := 42) dX8_placeOfFormFault_39 (by decide) rfl (by omega) (fun h39 => ?_) (fun h39 => ?_)
            · refine j_iinc (pc' := 85) (z := i) (L' := [some (aR q), some (aI 0), some (aI (digB (E i))), some (aI (i + 1))]) dX8_placeOfFormFault_82 rfl (by decide) rfl rfl rfl ?_
              refine j_goto (pc' := 6) dX8_placeOfFormFault_85 (by decide) ?_
              exact ih6 _ (by omega) 0 (digB (E i)) (i + 1) (kf - 1) (by omega) (by omega) (by omega) (by omega) (by intro g; omega) (by intro _; exact ff_beg (by omega) (by omega) (hv0 (by omega) (by omega))) rfl
            · refine j_iload_n (pc' := 43) (z := i) dX8_placeOfFormFault_42 rfl rfl ?_
              exact j_iret dX8_placeOfFormFault_43 rfl (rt_eq (by exact (ff_no0 (by omega) (by omega) (hv0 (by omega) (by omega))).symm))
          · refine j_iconst (pc' := 33) dX8_placeOfFormFault_32 rfl ?_
            refine j_goto (pc' := 37) dX8_placeOfFormFault_33 (by decide) ?_
            refine j_istore_n (pc' := 38) (L' := [some (aR q), some (aI 1), some (aI (digB (E i))), some (aI i)]) dX8_placeOfFormFault_37 rfl (by decide) rfl ?_
            refine j_iload_n (pc' := 39) (z := 1) dX8_placeOfFormFault_38 rfl rfl ?_
            refine j_if_ne (tgt := 82) (pc' := 42) dX8_placeOfFormFault_39 (by decide) rfl (by omega) (fun h39 => ?_) (fun h39 => ?_)
            · refine j_iinc (pc' := 85) (z := i) (L' := [some (aR q), some (aI 1), some (aI (digB (E i))), some (aI (i + 1))]) dX8_placeOfFormFault_82 rfl (by decide) rfl rfl rfl ?_
              refine j_goto (pc' := 6) dX8_placeOfFormFault_85 (by decide) ?_
              exact ih6 _ (by omega) 1 (digB (E i)) (i + 1) (kf - 1) (by omega) (by omega) (by omega) (by omega) (by intro g; omega) (by intro _; exact ff_beg (by omega) (by omega) (hv0 (by omega) (by omega))) rfl
            · refine j_iload_n (pc' := 43) (z := i) dX8_placeOfFormFault_42 rfl rfl ?_
              exact j_iret dX8_placeOfFormFault_43 rfl (rt_eq (by exact (ff_no0 (by omega) (by omega) (hv0 (by omega) (by omega))).symm))
  exact lp6 _ 0 0 0 sz.toNat (by omega) (by omega) (by omega) (by omega) (by intro _ g2; refine ⟨by omega, ?_⟩; unfold formF; rw [if_neg (by omega)]) (by intro g; omega) rfl
theorem stp_p {v : Int} {x : CS} : stp 112 v x = (tiR x.2.1 (v / 1000) (v / 100 % 10) (v / 10 % 10) (v % 10), (tiD x.1 x.2.1 (v / 1000) (v / 100 % 10) (v / 10 % 10) (v % 10), tiN x.2.1 (v / 1000) (v / 100 % 10) (v / 10 % 10) (v % 10), x.2.2)) := rfl
theorem stp_s {v : Int} {x : CS} : stp 115 v x = (chR x.1 0 v, (chD x.1 0 v, x.2.1, x.2.2)) := rfl
theorem stp_c {v : Int} {x : CS} : stp 99 v x = (chR x.1 1 v, (chD x.1 1 v, x.2.1, x.2.2)) := rfl
theorem stp_l {v : Int} {x : CS} : stp 108 v x = (chR x.1 2 v, (chD x.1 2 v, x.2.1, x.2.2)) := rfl
theorem stp_r {v : Int} {x : CS} : stp 114 v x = (chR x.1 3 v, (chD x.1 3 v, x.2.1, x.2.2)) := rfl
theorem stp_h {v : Int} {x : CS} : stp 104 v x = (holdR x.1 x.2.1 v, (holdD x.1 x.2.1 v, x.2.1, x.2.2)) := rfl
theorem stp_w {v : Int} {x : CS} : stp 119 v x = (wedR x.1 x.2.1 v, (wedD x.1 x.2.1 v, x.2.1, x.2.2)) := rfl
theorem stp_o {v : Int} {x : CS} : stp 111 v x = (outR x.1 x.2.1 v, (outD x.1 x.2.1 v, x.2.1, x.2.2)) := rfl
theorem stp_t {v : Int} {x : CS} : stp 116 v x = (scrR x.1 x.2.1 v, (scwD x.1 x.2.1 v, x.2.1, x.2.2)) := rfl
theorem stp_d {v : Int} {x : CS} : stp 100 v x = (drR x.2.2 v, (drD x.1 x.2.1 x.2.2 v, x.2.1, drM x.2.2 v)) := rfl
set_option maxRecDepth 100000 in
set_option maxHeartbeats 4000000 in
theorem c_Road_can {l : Launch} {w : AW} {c : Nat} {D : Int → Int → Int} {n mi : Int} {q : Nat} {ct k f so sz : Int} {E : Int → Int} {a : Int} (hC : CarAt w c D n mi) (hB : CarOK D n mi) (hK : KindsAt w) (hc : 10 ≤ c ∧ c + 8 ≤ 68) (hS : ShelfAt w q ct k f so sz E) (hH : ShelfOK ct k f so sz E) (hq : q + 2 ≤ 68) (hwd : WdOK D) (ha : 0 ≤ a ∧ a < sz) (hdg : 0 < digB (E a)) (hst : ∀ k : Int, 0 ≤ k → k < digB (E a) → (0 ≤ a + 1 + k ∧ a + 1 + k < sz) ∧ 48 ≤ E (a + 1 + k) ∧ E (a + 1 + k) ≤ 57) : Call l m_Road_can false 68 68 [aR q, aI a, aR c] w (rt (some (aB (0 ≤ (stp (E a) (numF E (a + 1) (digB (E a))) (D, n, mi)).1))) (carW w c (stp (E a) (numF E (a + 1) (digB (E a))) (D, n, mi)).2.1 (stp (E a) (numF E (a + 1) (digB (E a))) (D, n, mi)).2.2.1 (stp (E a) (numF E (a + 1) (digB (E a))) (D, n, mi)).2.2.2)) := by
  have hC0 := hC
  have hB0 := hB
  have hK0 := hK
  obtain ⟨hO, a1, a2, a3, a4, a5, a6, a7⟩ := hC
  obtain ⟨hn, hD, hs0, hs1, hs2, hs3⟩ := hB
  obtain ⟨kk, t0, t1, t2, t3, t4, t5, t6, t7⟩ := hK
  have hS0 := hS
  have hH0 := hH
  obtain ⟨hO2, hE⟩ := hS
  obtain ⟨hct, hkk, hff, hso, hsz, hEb⟩ := hH
  have hEa := hEb a (by omega) (by omega)
  have hdb := digB_bd (c := E a)
  have hlet := digB_let hdg
  have hnb := numF_bd (E := E) (a := a + 1) (m := digB (E a)) hdb (fun k h1 h2 => (hst k h1 h2).2)
  refine Call.of (L := [some (aR q), some (aI a), some (aR c), none]) rfl (Nat.le_of_ble_eq_true rfl) rfl (fun G ad => ?_)
  refine j_aload_n (pc' := 1) (z := q) dX8_can_0 rfl rfl ?_
  refine j_iload_n (pc' := 2) (z := a) dX8_can_1 rfl rfl ?_
  refine j_iconst (pc' := 3) dX8_can_2 rfl ?_
  refine j_iadd (pc' := 4) dX8_can_3 rfl ?_
  refine j_aload_n (pc' := 5) (z := q) dX8_can_4 rfl rfl ?_
  refine j_get (pc' := 8) (v := aR (q + 1)) dX8_can_5 rfl f_Road_15 (by omega) hO2 rfl ?_
  refine j_iload_n (pc' := 9) (z := a) dX8_can_8 rfl rfl ?_
  refine j_iald (pc' := 10) dX8_can_9 rfl (by omega) hE (by omega) (by decide) ?_
  refine j_callS (pc' := 13) (as := [aI (E a)]) (rest := [aI (a + 1), aR q]) dX8_can_10 rfl s_Road_19 (c_Road_digitsBehind (by omega)) rfl rfl rfl (jdet (st' := [aI (digB (E a)), aI (a + 1), aR q]) rfl ?_)
  refine j_callV (pc' := 16) (as := [aI (a + 1), aI (digB (E a))]) (rest := []) dX8_can_13 rfl s_Road_33 (c_Shelf_number hS0 hH0 hq (by omega) (by omega) hst) (by omega) hO2 rfl rfl rfl rfl (jdet (st' := [aI (numF E (a + 1) (digB (E a)))]) rfl ?_)
  refine j_istore_n (pc' := 17) (L' := [some (aR q), some (aI a), some (aR c), some (aI (numF E (a + 1) (digB (E a))))]) dX8_can_16 rfl (by decide) rfl ?_
  refine j_aload_n (pc' := 18) (z := q) dX8_can_17 rfl rfl ?_
  refine j_get (pc' := 21) (v := aR (q + 1)) dX8_can_18 rfl f_Road_15 (by omega) hO2 rfl ?_
  refine j_iload_n (pc' := 22) (z := a) dX8_can_21 rfl rfl ?_
  refine j_iald (pc' := 23) dX8_can_22 rfl (by omega) hE (by omega) (by decide) ?_
  have hx23 : -2147483648 ≤ E a ∧ E a ≤ 2147483647 := (by omega)
  rcases (show E a = 99 ∨ E a = 100 ∨ E a = 104 ∨ E a = 108 ∨ E a = 111 ∨ E a = 112 ∨ E a = 114 ∨ E a = 115 ∨ E a = 116 ∨ E a = 119 by omega) with h23 | h23 | h23 | h23 | h23 | h23 | h23 | h23 | h23 | h23
  · refine j_tsw (tgt := 171) dX8_can_23 hx23 (by omega) (by rw [h23]; rfl) (by decide) ?_
    have hstp : stp (E a) (numF E (a + 1) (digB (E a))) (D, n, mi) = stp 99 (numF E (a + 1) (digB (E a))) (D, n, mi) := by rw [h23]
    rw [stp_c] at hstp
    have hsb := stp_bd (c := 99) (v := (numF E (a + 1) (digB (E a)))) (x := (D, n, mi)) ⟨hB0, hwd⟩
    rw [stp_c] at hsb
    dsimp only at hsb
    refine j_aload_n (pc' := 172) (z := c) dX8_can_171 rfl rfl ?_
    refine j_iconst (pc' := 173) dX8_can_172 rfl ?_
    refine j_iload_n (pc' := 174) (z := (numF E (a + 1) (digB (E a)))) dX8_can_173 rfl rfl ?_
    refine j_callV (pc' := 177) (as := [aI 1, aI (numF E (a + 1) (digB (E a)))]) (rest := []) dX8_can_174 rfl s_Road_43 (c_Car_change hC0 hB0 hK0 hc (by omega) (by omega)) (by omega) hO rfl rfl rfl rfl (jdet (st' := [aI (chR D 1 (numF E (a + 1) (digB (E a))))]) rfl ?_)
    refine j_if_lt (tgt := 184) (pc' := 180) dX8_can_177 (by decide) rfl (by omega) (fun h177 => ?_) (fun h177 => ?_)
    · refine j_iconst (pc' := 185) dX8_can_184 rfl ?_
      exact j_zret0 dX8_can_185 rfl (by rw [hstp]; exact rt_b0 (Int.not_le.mpr h177))
    · refine j_iconst (pc' := 181) dX8_can_180 rfl ?_
      refine j_goto (pc' := 185) dX8_can_181 (by decide) ?_
      exact j_zret1 dX8_can_185 rfl (by rw [hstp]; exact rt_b1 h177)
  · refine j_tsw (tgt := 272) dX8_can_23 hx23 (by omega) (by rw [h23]; rfl) (by decide) ?_
    have hstp : stp (E a) (numF E (a + 1) (digB (E a))) (D, n, mi) = stp 100 (numF E (a + 1) (digB (E a))) (D, n, mi) := by rw [h23]
    rw [stp_d] at hstp
    have hsb := stp_bd (c := 100) (v := (numF E (a + 1) (digB (E a)))) (x := (D, n, mi)) ⟨hB0, hwd⟩
    rw [stp_d] at hsb
    dsimp only at hsb
    refine j_aload_n (pc' := 273) (z := c) dX8_can_272 rfl rfl ?_
    refine j_iload_n (pc' := 274) (z := (numF E (a + 1) (digB (E a)))) dX8_can_273 rfl rfl ?_
    refine j_callV (pc' := 277) (as := [aI (numF E (a + 1) (digB (E a)))]) (rest := []) dX8_can_274 rfl s_Road_58 (c_Car_drive hC0 hB0 hK0 hc (by omega)) (by omega) hO rfl rfl rfl rfl (jdet (st' := [aI (drR mi (numF E (a + 1) (digB (E a))))]) rfl ?_)
    refine j_if_lt (tgt := 284) (pc' := 280) dX8_can_277 (by decide) rfl (by omega) (fun h277 => ?_) (fun h277 => ?_)
    · refine j_iconst (pc' := 285) dX8_can_284 rfl ?_
      exact j_zret0 dX8_can_285 rfl (by rw [hstp]; exact rt_b0 (Int.not_le.mpr h277))
    · refine j_iconst (pc' := 281) dX8_can_280 rfl ?_
      refine j_goto (pc' := 285) dX8_can_281 (by decide) ?_
      exact j_zret1 dX8_can_285 rfl (by rw [hstp]; exact rt_b1 h277)
  · refine j_tsw (tgt := 216) dX8_can_23 hx23 (by omega) (by rw [h23]; rfl) (by decide) ?_
    have hstp : stp (E a) (numF E (a + 1) (digB (E a))) (D, n, mi) = stp 104 (numF E (a + 1) (digB (E a))) (D, n, mi) := by rw [h23]
    rw [stp_h] at hstp
    have hsb := stp_bd (c := 104) (v := (numF E (a + 1) (digB (E a)))) (x := (D, n, mi)) ⟨hB0, hwd⟩
    rw [stp_h] at hsb
    dsimp only at hsb
    refine j_aload_n (pc' := 217) (z := c) dX8_can_216 rfl rfl ?_
    refine j_iload_n (pc' := 218) (z := (numF E (a + 1) (digB (E a)))) dX8_can_217 rfl rfl ?_
    refine j_callV (pc' := 221) (as := [aI (numF E (a + 1) (digB (E a)))]) (rest := []) dX8_can_218 rfl s_Road_46 (c_Car_hold hC0 hB0 hK0 hc (by omega)) (by omega) hO rfl rfl rfl rfl (jdet (st' := [aI (holdR D n (numF E (a + 1) (digB (E a))))]) rfl ?_)
    refine j_if_lt (tgt := 228) (pc' := 224) dX8_can_221 (by decide) rfl (by omega) (fun h221 => ?_) (fun h221 => ?_)
    · refine j_iconst (pc' := 229) dX8_can_228 rfl ?_
      exact j_zret0 dX8_can_229 rfl (by rw [hstp]; exact rt_b0 (Int.not_le.mpr h221))
    · refine j_iconst (pc' := 225) dX8_can_224 rfl ?_
      refine j_goto (pc' := 229) dX8_can_225 (by decide) ?_
      exact j_zret1 dX8_can_229 rfl (by rw [hstp]; exact rt_b1 h221)
  · refine j_tsw (tgt := 186) dX8_can_23 hx23 (by omega) (by rw [h23]; rfl) (by decide) ?_
    have hstp : stp (E a) (numF E (a + 1) (digB (E a))) (D, n, mi) = stp 108 (numF E (a + 1) (digB (E a))) (D, n, mi) := by rw [h23]
    rw [stp_l] at hstp
    have hsb := stp_bd (c := 108) (v := (numF E (a + 1) (digB (E a)))) (x := (D, n, mi)) ⟨hB0, hwd⟩
    rw [stp_l] at hsb
    dsimp only at hsb
    refine j_aload_n (pc' := 187) (z := c) dX8_can_186 rfl rfl ?_
    refine j_iconst (pc' := 188) dX8_can_187 rfl ?_
    refine j_iload_n (pc' := 189) (z := (numF E (a + 1) (digB (E a)))) dX8_can_188 rfl rfl ?_
    refine j_callV (pc' := 192) (as := [aI 2, aI (numF E (a + 1) (digB (E a)))]) (rest := []) dX8_can_189 rfl s_Road_43 (c_Car_change hC0 hB0 hK0 hc (by omega) (by omega)) (by omega) hO rfl rfl rfl rfl (jdet (st' := [aI (chR D 2 (numF E (a + 1) (digB (E a))))]) rfl ?_)
    refine j_if_lt (tgt := 199) (pc' := 195) dX8_can_192 (by decide) rfl (by omega) (fun h192 => ?_) (fun h192 => ?_)
    · refine j_iconst (pc' := 200) dX8_can_199 rfl ?_
      exact j_zret0 dX8_can_200 rfl (by rw [hstp]; exact rt_b0 (Int.not_le.mpr h192))
    · refine j_iconst (pc' := 196) dX8_can_195 rfl ?_
      refine j_goto (pc' := 200) dX8_can_196 (by decide) ?_
      exact j_zret1 dX8_can_200 rfl (by rw [hstp]; exact rt_b1 h192)
  · refine j_tsw (tgt := 244) dX8_can_23 hx23 (by omega) (by rw [h23]; rfl) (by decide) ?_
    have hstp : stp (E a) (numF E (a + 1) (digB (E a))) (D, n, mi) = stp 111 (numF E (a + 1) (digB (E a))) (D, n, mi) := by rw [h23]
    rw [stp_o] at hstp
    have hsb := stp_bd (c := 111) (v := (numF E (a + 1) (digB (E a)))) (x := (D, n, mi)) ⟨hB0, hwd⟩
    rw [stp_o] at hsb
    dsimp only at hsb
    refine j_aload_n (pc' := 245) (z := c) dX8_can_244 rfl rfl ?_
    refine j_iload_n (pc' := 246) (z := (numF E (a + 1) (digB (E a)))) dX8_can_245 rfl rfl ?_
    refine j_callV (pc' := 249) (as := [aI (numF E (a + 1) (digB (E a)))]) (rest := []) dX8_can_246 rfl s_Road_52 (c_Car_takeOut hC0 hB0 hK0 hc (by omega)) (by omega) hO rfl rfl rfl rfl (jdet (st' := [aI (outR D n (numF E (a + 1) (digB (E a))))]) rfl ?_)
    refine j_if_lt (tgt := 256) (pc' := 252) dX8_can_249 (by decide) rfl (by omega) (fun h249 => ?_) (fun h249 => ?_)
    · refine j_iconst (pc' := 257) dX8_can_256 rfl ?_
      exact j_zret0 dX8_can_257 rfl (by rw [hstp]; exact rt_b0 (Int.not_le.mpr h249))
    · refine j_iconst (pc' := 253) dX8_can_252 rfl ?_
      refine j_goto (pc' := 257) dX8_can_253 (by decide) ?_
      exact j_zret1 dX8_can_257 rfl (by rw [hstp]; exact rt_b1 h249)
  · refine j_tsw (tgt := 120) dX8_can_23 hx23 (by omega) (by rw [h23]; rfl) (by decide) ?_
    have hstp : stp (E a) (numF E (a + 1) (digB (E a))) (D, n, mi) = stp 112 (numF E (a + 1) (digB (E a))) (D, n, mi) := by rw [h23]
    rw [stp_p] at hstp
    have hsb := stp_bd (c := 112) (v := (numF E (a + 1) (digB (E a)))) (x := (D, n, mi)) ⟨hB0, hwd⟩
    rw [stp_p] at hsb
    dsimp only at hsb
    refine j_aload_n (pc' := 121) (z := c) dX8_can_120 rfl rfl ?_
    refine j_iload_n (pc' := 122) (z := (numF E (a + 1) (digB (E a)))) dX8_can_121 rfl rfl ?_
    refine j_sipush (pc' := 125) dX8_can_122 rfl (by decide) ?_
    refine j_idiv (pc' := 126) dX8_can_125 rfl (by omega) (by omega) ?_
    refine j_iload_n (pc' := 127) (z := (numF E (a + 1) (digB (E a)))) dX8_can_126 rfl rfl ?_
    refine j_bipush (pc' := 129) dX8_can_127 rfl (by decide) ?_
    refine j_idiv (pc' := 130) dX8_can_129 rfl (by omega) (by omega) ?_
    refine j_bipush (pc' := 132) dX8_can_130 rfl (by decide) ?_
    refine j_irem (pc' := 133) dX8_can_132 rfl (by omega) (by omega) ?_
    refine j_iload_n (pc' := 134) (z := (numF E (a + 1) (digB (E a)))) dX8_can_133 rfl rfl ?_
    refine j_bipush (pc' := 136) dX8_can_134 rfl (by decide) ?_
    refine j_idiv (pc' := 137) dX8_can_136 rfl (by omega) (by omega) ?_
    refine j_bipush (pc' := 139) dX8_can_137 rfl (by decide) ?_
    refine j_irem (pc' := 140) dX8_can_139 rfl (by omega) (by omega) ?_
    refine j_iload_n (pc' := 141) (z := (numF E (a + 1) (digB (E a)))) dX8_can_140 rfl rfl ?_
    refine j_bipush (pc' := 143) dX8_can_141 rfl (by decide) ?_
    refine j_irem (pc' := 144) dX8_can_143 rfl (by omega) (by omega) ?_
    refine j_callV (pc' := 147) (as := [aI ((numF E (a + 1) (digB (E a))) / 1000), aI (((numF E (a + 1) (digB (E a))) / 100) % 10), aI (((numF E (a + 1) (digB (E a))) / 10) % 10), aI ((numF E (a + 1) (digB (E a))) % 10)]) (rest := []) dX8_can_144 rfl s_Road_37 (c_Car_takeIn hC0 hB0 hK0 hc (by omega) (by omega) (by omega) (by omega)) (by omega) hO rfl rfl rfl rfl (jdet (st' := [aI (tiR n ((numF E (a + 1) (digB (E a))) / 1000) (((numF E (a + 1) (digB (E a))) / 100) % 10) (((numF E (a + 1) (digB (E a))) / 10) % 10) ((numF E (a + 1) (digB (E a))) % 10))]) rfl ?_)
    refine j_if_lt (tgt := 154) (pc' := 150) dX8_can_147 (by decide) rfl (by omega) (fun h147 => ?_) (fun h147 => ?_)
    · refine j_iconst (pc' := 155) dX8_can_154 rfl ?_
      exact j_zret0 dX8_can_155 rfl (by rw [hstp]; exact rt_b0 (Int.not_le.mpr h147))
    · refine j_iconst (pc' := 151) dX8_can_150 rfl ?_
      refine j_goto (pc' := 155) dX8_can_151 (by decide) ?_
      exact j_zret1 dX8_can_155 rfl (by rw [hstp]; exact rt_b1 h147)
  · refine j_tsw (tgt := 201) dX8_can_23 hx23 (by omega) (by rw [h23]; rfl) (by decide) ?_
    have hstp : stp (E a) (numF E (a + 1) (digB (E a))) (D, n, mi) = stp 114 (numF E (a + 1) (digB (E a))) (D, n, mi) := by rw [h23]
    rw [stp_r] at hstp
    have hsb := stp_bd (c := 114) (v := (numF E (a + 1) (digB (E a)))) (x := (D, n, mi)) ⟨hB0, hwd⟩
    rw [stp_r] at hsb
    dsimp only at hsb
    refine j_aload_n (pc' := 202) (z := c) dX8_can_201 rfl rfl ?_
    refine j_iconst (pc' := 203) dX8_can_202 rfl ?_
    refine j_iload_n (pc' := 204) (z := (numF E (a + 1) (digB (E a)))) dX8_can_203 rfl rfl ?_
    refine j_callV (pc' := 207) (as := [aI 3, aI (numF E (a + 1) (digB (E a)))]) (rest := []) dX8_can_204 rfl s_Road_43 (c_Car_change hC0 hB0 hK0 hc (by omega) (by omega)) (by omega) hO rfl rfl rfl rfl (jdet (st' := [aI (chR D 3 (numF E (a + 1) (digB (E a))))]) rfl ?_)
    refine j_if_lt (tgt := 214) (pc' := 210) dX8_can_207 (by decide) rfl (by omega) (fun h207 => ?_) (fun h207 => ?_)
    · refine j_iconst (pc' := 215) dX8_can_214 rfl ?_
      exact j_zret0 dX8_can_215 rfl (by rw [hstp]; exact rt_b0 (Int.not_le.mpr h207))
    · refine j_iconst (pc' := 211) dX8_can_210 rfl ?_
      refine j_goto (pc' := 215) dX8_can_211 (by decide) ?_
      exact j_zret1 dX8_can_215 rfl (by rw [hstp]; exact rt_b1 h207)
  · refine j_tsw (tgt := 156) dX8_can_23 hx23 (by omega) (by rw [h23]; rfl) (by decide) ?_
    have hstp : stp (E a) (numF E (a + 1) (digB (E a))) (D, n, mi) = stp 115 (numF E (a + 1) (digB (E a))) (D, n, mi) := by rw [h23]
    rw [stp_s] at hstp
    have hsb := stp_bd (c := 115) (v := (numF E (a + 1) (digB (E a)))) (x := (D, n, mi)) ⟨hB0, hwd⟩
    rw [stp_s] at hsb
    dsimp only at hsb
    refine j_aload_n (pc' := 157) (z := c) dX8_can_156 rfl rfl ?_
    refine j_iconst (pc' := 158) dX8_can_157 rfl ?_
    refine j_iload_n (pc' := 159) (z := (numF E (a + 1) (digB (E a)))) dX8_can_158 rfl rfl ?_
    refine j_callV (pc' := 162) (as := [aI 0, aI (numF E (a + 1) (digB (E a)))]) (rest := []) dX8_can_159 rfl s_Road_43 (c_Car_change hC0 hB0 hK0 hc (by omega) (by omega)) (by omega) hO rfl rfl rfl rfl (jdet (st' := [aI (chR D 0 (numF E (a + 1) (digB (E a))))]) rfl ?_)
    refine j_if_lt (tgt := 169) (pc' := 165) dX8_can_162 (by decide) rfl (by omega) (fun h162 => ?_) (fun h162 => ?_)
    · refine j_iconst (pc' := 170) dX8_can_169 rfl ?_
      exact j_zret0 dX8_can_170 rfl (by rw [hstp]; exact rt_b0 (Int.not_le.mpr h162))
    · refine j_iconst (pc' := 166) dX8_can_165 rfl ?_
      refine j_goto (pc' := 170) dX8_can_166 (by decide) ?_
      exact j_zret1 dX8_can_170 rfl (by rw [hstp]; exact rt_b1 h162)
  · refine j_tsw (tgt := 258) dX8_can_23 hx23 (by omega) (by rw [h23]; rfl) (by decide) ?_
    have hstp : stp (E a) (numF E (a + 1) (digB (E a))) (D, n, mi) = stp 116 (numF E (a + 1) (digB (E a))) (D, n, mi) := by rw [h23]
    rw [stp_t] at hstp
    have hsb := stp_bd (c := 116) (v := (numF E (a + 1) (digB (E a)))) (x := (D, n, mi)) ⟨hB0, hwd⟩
    rw [stp_t] at hsb
    dsimp only at hsb
    refine j_aload_n (pc' := 259) (z := c) dX8_can_258 rfl rfl ?_
    refine j_iload_n (pc' := 260) (z := (numF E (a + 1) (digB (E a)))) dX8_can_259 rfl rfl ?_
    refine j_callV (pc' := 263) (as := [aI (numF E (a + 1) (digB (E a)))]) (rest := []) dX8_can_260 rfl s_Road_55 (c_Car_screw hC0 hB0 hK0 hc (by omega)) (by omega) hO rfl rfl rfl rfl (jdet (st' := [aI (scrR D n (numF E (a + 1) (digB (E a))))]) rfl ?_)
    refine j_if_lt (tgt := 270) (pc' := 266) dX8_can_263 (by decide) rfl (by omega) (fun h263 => ?_) (fun h263 => ?_)
    · refine j_iconst (pc' := 271) dX8_can_270 rfl ?_
      exact j_zret0 dX8_can_271 rfl (by rw [hstp]; exact rt_b0 (Int.not_le.mpr h263))
    · refine j_iconst (pc' := 267) dX8_can_266 rfl ?_
      refine j_goto (pc' := 271) dX8_can_267 (by decide) ?_
      exact j_zret1 dX8_can_271 rfl (by rw [hstp]; exact rt_b1 h263)
  · refine j_tsw (tgt := 230) dX8_can_23 hx23 (by omega) (by rw [h23]; rfl) (by decide) ?_
    have hstp : stp (E a) (numF E (a + 1) (digB (E a))) (D, n, mi) = stp 119 (numF E (a + 1) (digB (E a))) (D, n, mi) := by rw [h23]
    rw [stp_w] at hstp
    have hsb := stp_bd (c := 119) (v := (numF E (a + 1) (digB (E a)))) (x := (D, n, mi)) ⟨hB0, hwd⟩
    rw [stp_w] at hsb
    dsimp only at hsb
    refine j_aload_n (pc' := 231) (z := c) dX8_can_230 rfl rfl ?_
    refine j_iload_n (pc' := 232) (z := (numF E (a + 1) (digB (E a)))) dX8_can_231 rfl rfl ?_
    refine j_callV (pc' := 235) (as := [aI (numF E (a + 1) (digB (E a)))]) (rest := []) dX8_can_232 rfl s_Road_49 (c_Car_wedge hC0 hB0 hK0 hc (by omega)) (by omega) hO rfl rfl rfl rfl (jdet (st' := [aI (wedR D n (numF E (a + 1) (digB (E a))))]) rfl ?_)
    refine j_if_lt (tgt := 242) (pc' := 238) dX8_can_235 (by decide) rfl (by omega) (fun h235 => ?_) (fun h235 => ?_)
    · refine j_iconst (pc' := 243) dX8_can_242 rfl ?_
      exact j_zret0 dX8_can_243 rfl (by rw [hstp]; exact rt_b0 (Int.not_le.mpr h235))
    · refine j_iconst (pc' := 239) dX8_can_238 rfl ?_
      refine j_goto (pc' := 243) dX8_can_239 (by decide) ?_
      exact j_zret1 dX8_can_243 rfl (by rw [hstp]; exact rt_b1 h235)
set_option maxRecDepth 100000 in
set_option maxHeartbeats 4000000 in
theorem c_Road_follow {l : Launch} {w : AW} {c : Nat} {D : Int → Int → Int} {n mi : Int} {q : Nat} {ct k f so sz : Int} {E : Int → Int} (hC : CarAt w c D n mi) (hB : CarOK D n mi) (hK : KindsAt w) (hc : 10 ≤ c ∧ c + 8 ≤ 68) (hS : ShelfAt w q ct k f so sz E) (hH : ShelfOK ct k f so sz E) (hq : q + 2 ≤ 68) (hcq : c + 8 ≤ q ∨ q + 2 ≤ c) (hwd : WdOK D) (hffn : ffN E sz sz.toNat 0 = -1) : Call l m_Road_follow false 68 68 [aR q, aR c] w (rt (some (aI (folA E sz (D, n, mi)).1)) (carW w c (folA E sz (D, n, mi)).2.1 (folA E sz (D, n, mi)).2.2.1 (folA E sz (D, n, mi)).2.2.2)) := by
  have hC0 := hC
  have hB0 := hB
  have hK0 := hK
  obtain ⟨hO, a1, a2, a3, a4, a5, a6, a7⟩ := hC
  obtain ⟨hn, hD, hs0, hs1, hs2, hs3⟩ := hB
  obtain ⟨kk, t0, t1, t2, t3, t4, t5, t6, t7⟩ := hK
  have hS0 := hS
  have hH0 := hH
  obtain ⟨hO2, hE⟩ := hS
  obtain ⟨hct, hkk, hff, hso, hsz, hEb⟩ := hH
  refine Call.of (L := [some (aR q), some (aR c), none, none]) rfl (Nat.le_of_ble_eq_true rfl) rfl (fun G ad => ?_)
  refine j_iconst (pc' := 1) dX8_follow_0 rfl ?_
  refine j_istore_n (pc' := 2) (L' := [some (aR q), some (aR c), some (aI 0), none]) dX8_follow_1 rfl (by decide) rfl ?_
  refine j_iconst (pc' := 3) dX8_follow_2 rfl ?_
  refine j_istore_n (pc' := 4) (L' := [some (aR q), some (aR c), some (aI 0), some (aI 0)]) dX8_follow_3 rfl (by decide) rfl ?_
  have lp4 : ∀ (k9 : Nat) (s : Int) (a : Int) (x : CS) (kf : Nat), (0 ≤ a ∧ a ≤ 1000) → (0 ≤ s ∧ s ≤ a) → (CSOK x) → (sz - a ≤ (kf : Int)) → (ffN E sz kf a = -1) → (folA E sz (D, n, mi) = fol E sz kf a s x) → ((sz - a).toNat) = k9 → J l m_Road_follow ad G [] false (jZ ad G false 68 m_Road_follow.2.2.2.2.cells m_Road_follow.2.2.2.2.slots (rt (some (aI (folA E sz (D, n, mi)).1)) (carW w c (folA E sz (D, n, mi)).2.1 (folA E sz (D, n, mi)).2.2.1 (folA E sz (D, n, mi)).2.2.2))) 68 0 0 4 [some (aR q), some (aR c), some (aI s), some (aI a)] [] (carW w c x.1 x.2.1 x.2.2) := by
    intro k9
    induction k9 using Nat.strongRecOn with
    | _ k9 ih4 =>
      intro s a x kf ha hs hx hk hf1 hv hk4
      refine j_iload_n (pc' := 5) (z := a) dX8_follow_4 rfl rfl ?_
      refine j_aload_n (pc' := 6) (z := q) dX8_follow_5 rfl rfl ?_
      refine j_get (pc' := 9) (v := aI sz) dX8_follow_6 rfl f_Road_9 (by omega) (carW_shelf hS0 (by omega)).1 rfl ?_
      refine j_icmp_ge (tgt := 47) (pc' := 12) dX8_follow_9 (by decide) rfl (by omega) (by omega) (fun h9 => ?_) (fun h9 => ?_)
      · refine j_iload_n (pc' := 48) (z := s) dX8_follow_47 rfl rfl ?_
        exact j_iret dX8_follow_48 rfl (id (by rw [hv, fol_z (by omega)]; exact ⟨rfl, rfl⟩))
      · obtain ⟨k1, hk1⟩ : ∃ j, kf = j + 1 := ⟨kf - 1, by omega⟩
        subst hk1
        have hsfn : ¬ 0 ≤ sf E sz a := fun q9 => by rw [ffN_y (by omega) q9] at hf1; omega
        have hsf := sf_ok (E := E) (sz := sz) ha.1 (by omega)
        have hEa := hEb a (by omega) (by omega)
        have hdb := digB_bd (c := E a)
        refine j_aload_n (pc' := 13) (z := q) dX8_follow_12 rfl rfl ?_
        refine j_iload_n (pc' := 14) (z := a) dX8_follow_13 rfl rfl ?_
        refine j_aload_n (pc' := 15) (z := c) dX8_follow_14 rfl rfl ?_
        refine j_callS (pc' := 18) (as := [aR q, aI a, aR c]) (rest := []) dX8_follow_15 rfl s_Road_29 (c_Road_can (CarAt_carW (w := w) (c := c)) hx.1 (carW_kinds hK0 (by omega)) hc (carW_shelf hS0 (by omega)) hH0 hq hx.2 (by omega) hsf.1.2 hsf.2.1) rfl rfl rfl (jdet (st' := [aB (0 ≤ (stq E a x).1)]) rfl ?_)
        refine j_w (w' := carW w c (stq E a x).2.1 (stq E a x).2.2.1 (stq E a x).2.2.2) carW_carW ?_
        refine j_ifb_ne (tgt := 27) (pc' := 21) dX8_follow_18 (by decide) rfl (fun h18 => ?_) (fun h18 => ?_)
        · refine j_iinc (pc' := 30) (z := s) (L' := [some (aR q), some (aR c), some (aI (s + 1)), some (aI a)]) dX8_follow_27 rfl (by decide) rfl rfl rfl ?_
          refine j_iload_n (pc' := 31) (z := a) dX8_follow_30 rfl rfl ?_
          refine j_aload_n (pc' := 32) (z := q) dX8_follow_31 rfl rfl ?_
          refine j_get (pc' := 35) (v := aR (q + 1)) dX8_follow_32 rfl f_Road_15 (by omega) (carW_shelf hS0 (by omega)).1 rfl ?_
          refine j_iload_n (pc' := 36) (z := a) dX8_follow_35 rfl rfl ?_
          refine j_iald (pc' := 37) dX8_follow_36 rfl (by omega) (carW_shelf hS0 (by omega)).2 (by omega) (by decide) ?_
          refine j_callS (pc' := 40) (as := [aI (E a)]) (rest := [aI a]) dX8_follow_37 rfl s_Road_19 (c_Road_digitsBehind (by omega)) rfl rfl rfl (jdet (st' := [aI (digB (E a)), aI a]) rfl ?_)
          refine j_iconst (pc' := 41) dX8_follow_40 rfl ?_
          refine j_iadd (pc' := 42) dX8_follow_41 rfl ?_
          refine j_iadd (pc' := 43) dX8_follow_42 rfl ?_
          refine j_top (b := a + digB (E a) + 2) (by omega) ?_
          refine j_istore_n (pc' := 44) (L' := [some (aR q), some (aR c), some (aI (s + 1)), some (aI (a + digB (E a) + 2))]) dX8_follow_43 rfl (by decide) rfl ?_
          refine j_goto (pc' := 4) dX8_follow_44 (by decide) ?_
          refine j_w (w' := carW w c ((stq E a x).2).1 ((stq E a x).2).2.1 ((stq E a x).2).2.2) (by first | (exact (carW_id hC0).symm) | rfl) ?_
          exact ih4 _ (by omega) (s + 1) (a + digB (E a) + 2) ((stq E a x).2) k1 (by omega) (by omega) (by exact stp_ok hx) (by omega) (by rw [ffN_n (by omega) (by omega)] at hf1; exact hf1) (by rw [hv, fol_y (by omega) h18]) rfl
        · refine j_sipush (pc' := 24) dX8_follow_21 rfl (by decide) ?_
          refine j_iload_n (pc' := 25) (z := a) dX8_follow_24 rfl rfl ?_
          refine j_isub (pc' := 26) dX8_follow_25 rfl ?_
          exact j_iret dX8_follow_26 rfl (id (by rw [hv, fol_n (by omega) h18]; exact ⟨rfl, rfl⟩))
  refine j_w (w' := carW w c (D, n, mi).1 (D, n, mi).2.1 (D, n, mi).2.2) (by first | (exact (carW_id hC0).symm) | rfl) ?_
  exact lp4 _ 0 0 (D, n, mi) sz.toNat (by omega) (by omega) (by exact ⟨hB0, hwd⟩) (by omega) (by exact hffn) (by rfl) rfl
def roadA (D : Int → Int → Int) (n mi : Int) (sh E : Int → Int → Int) (d : Int) : Int := if rowR sh d = 0 then (if sh 3 d = 0 then (if 0 ≤ formF (E d) (sh 4 d) then -1000 - formF (E d) (sh 4 d) else (folA (E d) (sh 4 d) (D, n, mi)).1) else -12) else rowR sh d
def roadX (D : Int → Int → Int) (n mi : Int) (sh E : Int → Int → Int) (d : Int) : CS := if 0 ≤ roadA D n mi sh E d then (folA (E d) (sh 4 d) (D, n, mi)).2 else (D, n, mi)
theorem formF_bd {E : Int → Int} {sz : Int} (h : 0 ≤ sz) : -1 ≤ formF E sz ∧ formF E sz ≤ sz := by
  unfold formF
  split
  · omega
  · have := ffN_bd (E := E) (sz := sz) sz.toNat 0 (by omega); omega
theorem formF_n {E : Int → Int} {sz : Int} (h : 0 ≤ sz) (h2 : ¬ 0 ≤ formF E sz) : ffN E sz sz.toNat 0 = -1 := by
  unfold formF at h2
  split at h2
  · omega
  · have := ffN_bd (E := E) (sz := sz) sz.toNat 0 (by omega); omega
theorem roadX_n {D : Int → Int → Int} {n mi : Int} {sh E : Int → Int → Int} {d v : Int} (h : roadA D n mi sh E d = v) (hv : v < 0) : roadX D n mi sh E d = (D, n, mi) := if_neg (by omega)
theorem roadX_y {D : Int → Int → Int} {n mi : Int} {sh E : Int → Int → Int} {d v : Int} (h : roadA D n mi sh E d = v) (hv : 0 ≤ v) : roadX D n mi sh E d = (folA (E d) (sh 4 d) (D, n, mi)).2 := if_pos (by omega)
theorem road_1 {D : Int → Int → Int} {n mi : Int} {sh E : Int → Int → Int} {d : Int} (h : ¬ rowR sh d = 0) : roadA D n mi sh E d = rowR sh d := if_neg h
theorem road_2 {D : Int → Int → Int} {n mi : Int} {sh E : Int → Int → Int} {d : Int} (h : rowR sh d = 0) (h2 : ¬ sh 3 d = 0) : roadA D n mi sh E d = -12 := by unfold roadA; rw [if_pos h, if_neg h2]
theorem road_3 {D : Int → Int → Int} {n mi : Int} {sh E : Int → Int → Int} {d : Int} (h : rowR sh d = 0) (h2 : sh 3 d = 0) (h3 : 0 ≤ formF (E d) (sh 4 d)) : roadA D n mi sh E d = -1000 - formF (E d) (sh 4 d) := by unfold roadA; rw [if_pos h, if_pos h2, if_pos h3]
theorem road_4 {D : Int → Int → Int} {n mi : Int} {sh E : Int → Int → Int} {d : Int} (h : rowR sh d = 0) (h2 : sh 3 d = 0) (h3 : ¬ 0 ≤ formF (E d) (sh 4 d)) : roadA D n mi sh E d = (folA (E d) (sh 4 d) (D, n, mi)).1 := by unfold roadA; rw [if_pos h, if_pos h2, if_neg h3]
theorem fol_rg {E : Int → Int} {sz : Int} : ∀ (k : Nat) (a s : Int) (x : CS), 0 ≤ a → 0 ≤ s → (-2000 - sz - 5 * k ≤ (fol E sz k a s x).1 ∨ sz < a) ∧ (fol E sz k a s x).1 ≤ s + k
  | 0, a, s, x, h1, h2 => by
    show (-2000 - sz - 5 * ((0 : Nat) : Int) ≤ s ∨ sz < a) ∧ s ≤ s + ((0 : Nat) : Int)
    by_cases h : 0 ≤ sz
    · exact ⟨Or.inl (by omega), by omega⟩
    · exact ⟨Or.inr (by omega), by omega⟩
  | k + 1, a, s, x, h1, h2 => by
    rw [fol]
    split
    · split
      · have hb := digB_bd (c := E a)
        have := fol_rg (E := E) (sz := sz) k (a + digB (E a) + 2) (s + 1) (stq E a x).2 (by omega) (by omega)
        refine ⟨?_, by omega⟩
        rcases this.1 with q | q
        · exact Or.inl (by omega)
        · left
          rw [fol_z (by omega)]
          show _ ≤ s + 1
          omega
      · exact ⟨Or.inl (by show _ ≤ -2000 - a; omega), by show -2000 - a ≤ _; omega⟩
    · rename_i q
      by_cases h : sz < a
      · exact ⟨Or.inr h, by show s ≤ _; omega⟩
      · exact ⟨Or.inl (by show _ ≤ s; omega), by show s ≤ _; omega⟩
theorem folA_bd {E : Int → Int} {sz : Int} {x : CS} (h : 0 ≤ sz ∧ sz ≤ 100) : -10000 ≤ (folA E sz x).1 ∧ (folA E sz x).1 ≤ 10000 := by
  have := fol_rg (E := E) (sz := sz) sz.toNat 0 0 x (by omega) (by omega)
  unfold folA
  omega
set_option maxRecDepth 100000 in
set_option maxHeartbeats 4000000 in
theorem c_Top_road {l : Launch} {w : AW} {D Di : Int → Int → Int} {n mi hi ni mj : Int} {sh E : Int → Int → Int} {d : Int} (hW : Comp w D n mi hi Di ni mj sh E) (hB : CarOK D n mi) (hI : CarOK Di ni mj) (hhi : hi = 0 ∨ hi = 1) (hsh : ShOK sh E) (hwd : WdOK D) (hd : inI d) : Call l m_Top_road false 68 68 [aR 0, aI d] w (jC w (roadA D n mi sh E d) ((roadX D n mi sh E d).1) ((roadX D n mi sh E d).2.1) ((roadX D n mi sh E d).2.2) hi Di ni mj sh E) := by
  have hT := TS.rf hW
  obtain ⟨hO, hK, hC, ⟨Dt, nt, mt, hCt⟩, hCi, hS34, hSh, ⟨po, hPo⟩, ⟨di, hDi⟩⟩ := hW
  obtain ⟨hn, hD, hs0, hs1, hs2, hs3⟩ := id hB
  refine Call.of (L := [some (aR 0), some (aI d), none, none, none, none]) rfl (Nat.le_of_ble_eq_true rfl) rfl (fun G ad => ?_)
  refine j_aload_n (pc' := 1) (z := 0) dX11_road_0 rfl rfl ?_
  refine j_iload_n (pc' := 2) (z := d) dX11_road_1 rfl rfl ?_
  refine j_callV (pc' := 5) (as := [aI d]) (rest := []) dX11_road_2 rfl s_Top_70 (c_Top_rowRefusal hT.1 hsh (by omega)) (by omega) hO rfl rfl rfl rfl (jdet (st' := [aI (rowR sh d)]) rfl ?_)
  refine j_istore_n (pc' := 6) (L' := [some (aR 0), some (aI d), some (aI (rowR sh d)), none, none, none]) dX11_road_5 rfl (by decide) rfl ?_
  refine j_iload_n (pc' := 7) (z := (rowR sh d)) dX11_road_6 rfl rfl ?_
  have hrb := rowR_bd (sh := sh) (d := d)
  refine j_if_eq (tgt := 12) (pc' := 10) dX11_road_7 (by decide) rfl (by omega) (fun h7 => ?_) (fun h7 => ?_)
  · obtain ⟨hd7, hct⟩ := rowR_0 h7
    obtain ⟨q1, q2, q3, q4, q5, q6⟩ := id (hsh d hd7)
    refine j_aload_n (pc' := 13) (z := 0) dX11_road_12 rfl rfl ?_
    refine j_get (pc' := 16) (v := aR 34) dX11_road_13 rfl f_Top_58 (by omega) hO rfl ?_
    refine j_iload_n (pc' := 17) (z := d) dX11_road_16 rfl rfl ?_
    refine j_aald (pc' := 18) (r := (35 + 2 * (d).toNat)) (Cn := "RattleAtFifty$Shelf") dX11_road_17 rfl (by omega) hS34 rfl (by omega) (by decide) rfl ?_
    refine j_astore_n (pc' := 19) (L' := [some (aR 0), some (aI d), some (aI (rowR sh d)), some (aR (35 + 2 * (d).toNat)), none, none]) dX11_road_18 rfl (by decide) rfl ?_
    refine j_aload_n (pc' := 20) (z := (35 + 2 * (d).toNat)) dX11_road_19 rfl rfl ?_
    refine j_get (pc' := 23) (v := aI (sh 3 d)) dX11_road_20 rfl f_Top_74 (by omega) (hSh d (by omega)).1 rfl ?_
    refine j_if_eq (tgt := 29) (pc' := 26) dX11_road_23 (by decide) rfl (by omega) (fun h23 => ?_) (fun h23 => ?_)
    · refine j_aload_n (pc' := 30) (z := (35 + 2 * (d).toNat)) dX11_road_29 rfl rfl ?_
      refine j_callS (pc' := 33) (as := [aR (35 + 2 * (d).toNat)]) (rest := []) dX11_road_30 rfl s_Top_78 (c_Road_placeOfFormFault (hSh d (by omega)) (hsh d (by omega)) (by omega)) rfl rfl rfl (jdet (st' := [aI (formF (E d) (sh 4 d))]) rfl ?_)
      refine j_istore (pc' := 35) (L' := [some (aR 0), some (aI d), some (aI (rowR sh d)), some (aR (35 + 2 * (d).toNat)), some (aI (formF (E d) (sh 4 d))), none]) dX11_road_33 rfl (by decide) rfl ?_
      refine j_iload (pc' := 37) (z := (formF (E d) (sh 4 d))) dX11_road_35 rfl rfl ?_
      have hfb := formF_bd (E := E d) (sz := sh 4 d) (by omega)
      refine j_if_lt (tgt := 47) (pc' := 40) dX11_road_37 (by decide) rfl (by omega) (fun h37 => ?_) (fun h37 => ?_)
      · refine j_aload_n (pc' := 48) (z := 0) dX11_road_47 rfl rfl ?_
        refine j_get (pc' := 51) (v := aR 18) dX11_road_48 rfl f_Top_46 (by omega) hO rfl ?_
        refine j_aload_n (pc' := 52) (z := 0) dX11_road_51 rfl rfl ?_
        refine j_get (pc' := 55) (v := aR 10) dX11_road_52 rfl f_Top_42 (by omega) hO rfl ?_
        refine j_callV (pc' := 58) (as := [aR 10]) (rest := []) dX11_road_55 rfl s_Top_84 (c_Car_becomes hCt hC (by omega) (by omega) (by omega)) (by omega) hCt.1 rfl rfl rfl rfl (jdet (st' := []) rfl ?_)
        refine j_aload_n (pc' := 59) (z := (35 + 2 * (d).toNat)) dX11_road_58 rfl rfl ?_
        refine j_aload_n (pc' := 60) (z := 0) dX11_road_59 rfl rfl ?_
        refine j_get (pc' := 63) (v := aR 18) dX11_road_60 rfl f_Top_46 (by omega) ((carW_out (by omega)).trans hO) rfl ?_
        refine j_callS (pc' := 66) (as := [aR (35 + 2 * (d).toNat), aR 18]) (rest := []) dX11_road_63 rfl s_Top_88 (c_Road_follow CarAt_carW hB (carW_kinds hK (by omega)) (by omega) (carW_shelf (hSh d (by omega)) (by omega)) (hsh d (by omega)) (by omega) (by omega) hwd (formF_n (by omega) (by omega))) rfl rfl rfl (jdet (st' := [aI ((folA (E d) (sh 4 d) (D, n, mi)).1)]) rfl ?_)
        refine j_w (w' := carW w 18 ((folA (E d) (sh 4 d) (D, n, mi)).2.1) ((folA (E d) (sh 4 d) (D, n, mi)).2.2.1) ((folA (E d) (sh 4 d) (D, n, mi)).2.2.2)) carW_carW ?_
        have hob := folA_bd (E := E d) (sz := sh 4 d) (x := (D, n, mi)) (by omega)
        refine j_istore (pc' := 68) (L' := [some (aR 0), some (aI d), some (aI (rowR sh d)), some (aR (35 + 2 * (d).toNat)), some (aI (formF (E d) (sh 4 d))), some (aI ((folA (E d) (sh 4 d) (D, n, mi)).1))]) dX11_road_66 rfl (by decide) rfl ?_
        refine j_iload (pc' := 70) (z := ((folA (E d) (sh 4 d) (D, n, mi)).1)) dX11_road_68 rfl rfl ?_
        refine j_if_lt (tgt := 84) (pc' := 73) dX11_road_70 (by decide) rfl (by omega) (fun h70 => ?_) (fun h70 => ?_)
        · refine j_iload (pc' := 86) (z := ((folA (E d) (sh 4 d) (D, n, mi)).1)) dX11_road_84 rfl rfl ?_
          exact j_iret dX11_road_86 rfl (jC_of (by exact (road_4 h7 h23 (by omega)).symm) (by have h9 := road_4 (D := D) (n := n) (mi := mi) (E := E) h7 h23 (by omega); rw [roadX_n h9 (by omega)]; exact hT.trial))
        · refine j_aload_n (pc' := 74) (z := 0) dX11_road_73 rfl rfl ?_
          refine j_get (pc' := 77) (v := aR 10) dX11_road_74 rfl f_Top_42 (by omega) ((carW_out (by omega)).trans hO) rfl ?_
          refine j_aload_n (pc' := 78) (z := 0) dX11_road_77 rfl rfl ?_
          refine j_get (pc' := 81) (v := aR 18) dX11_road_78 rfl f_Top_46 (by omega) ((carW_out (by omega)).trans hO) rfl ?_
          refine j_callV (pc' := 84) (as := [aR 18]) (rest := []) dX11_road_81 rfl s_Top_84 (c_Car_becomes (carW_other hC (by omega)) CarAt_carW (by omega) (by omega) (by omega)) (by omega) ((carW_out (by omega)).trans hC.1) rfl rfl rfl rfl (jdet (st' := []) rfl ?_)
          refine j_iload (pc' := 86) (z := ((folA (E d) (sh 4 d) (D, n, mi)).1)) dX11_road_84 rfl rfl ?_
          exact j_iret dX11_road_86 rfl (jC_of (by exact (road_4 h7 h23 (by omega)).symm) (by have h9 := road_4 (D := D) (n := n) (mi := mi) (E := E) h7 h23 (by omega); rw [roadX_y h9 (by omega)]; exact hT.trial.car))
      · refine j_sipush (pc' := 43) dX11_road_40 rfl (by decide) ?_
        refine j_iload (pc' := 45) (z := (formF (E d) (sh 4 d))) dX11_road_43 rfl rfl ?_
        refine j_isub (pc' := 46) dX11_road_45 rfl ?_
        exact j_iret dX11_road_46 rfl (jC_of (by exact (road_3 h7 h23 (by omega)).symm) (by have h9 := road_3 (D := D) (n := n) (mi := mi) (E := E) h7 h23 (by omega); rw [roadX_n h9 (by omega)]; exact hT))
    · refine j_bipush (pc' := 28) dX11_road_26 rfl (by decide) ?_
      exact j_iret dX11_road_28 rfl (jC_of (by exact (road_2 h7 h23).symm) (by have h9 := road_2 (D := D) (n := n) (mi := mi) (E := E) h7 h23; rw [roadX_n h9 (by omega)]; exact hT))
  · refine j_iload_n (pc' := 11) (z := (rowR sh d)) dX11_road_10 rfl rfl ?_
    exact j_iret dX11_road_11 rfl (jC_of (by exact (road_1 h7).symm) (by have h9 := road_1 (D := D) (n := n) (mi := mi) (E := E) h7; rw [roadX_n h9 (by omega)]; exact hT))
