def gcdI (a b : Int) : Int := ((a.toNat.gcd b.toNat : Nat) : Int)
def lowT (a b p : Int) : Int := if b = 0 ∨ gcdI a b = 0 then (if p = 0 then 0 else 1) else if p = 0 then a / gcdI a b else b / gcdI a b
theorem gcdI_0 {a : Int} (h : 0 ≤ a) : gcdI a 0 = a := by
  unfold gcdI; simp; omega
theorem gcdI_s {g l : Int} (hg : 0 ≤ g) (hl : 0 < l) : gcdI l (g % l) = gcdI g l := by
  obtain ⟨g, rfl⟩ := Int.eq_ofNat_of_zero_le hg
  obtain ⟨l, rfl⟩ := Int.eq_ofNat_of_zero_le (show 0 ≤ l by omega)
  unfold gcdI
  have e : ((g : Int) % (l : Int)).toNat = g % l := by omega
  rw [e, Int.toNat_natCast, Int.toNat_natCast, Nat.gcd_comm l (g % l), Nat.gcd_comm g l, Nat.gcd_rec l g]
theorem gcdI_bd {a b B : Int} (ha : 0 ≤ a ∧ a ≤ B) (hb : 0 ≤ b ∧ b ≤ B) : 0 ≤ gcdI a b ∧ gcdI a b ≤ B := by
  obtain ⟨a, rfl⟩ := Int.eq_ofNat_of_zero_le ha.1
  obtain ⟨b, rfl⟩ := Int.eq_ofNat_of_zero_le hb.1
  unfold gcdI
  rw [Int.toNat_natCast, Int.toNat_natCast]
  refine ⟨by omega, ?_⟩
  rcases Nat.eq_zero_or_pos a with h | h
  · subst h; rw [Nat.gcd_zero_left]; omega
  · have := Nat.gcd_le_left b h; omega
theorem gcdI_pos {a b : Int} (ha : 0 ≤ a) (hb : 0 < b) : 0 < gcdI a b ∧ gcdI a b ≤ b := by
  obtain ⟨a, rfl⟩ := Int.eq_ofNat_of_zero_le ha
  obtain ⟨b, rfl⟩ := Int.eq_ofNat_of_zero_le (show 0 ≤ b by omega)
  unfold gcdI
  rw [Int.toNat_natCast, Int.toNat_natCast]
  have h1 := Nat.gcd_pos_of_pos_right a (show 0 < b by omega)
  have h2 := Nat.gcd_le_right a (show 0 < b by omega)
  omega
theorem gc_step {g l s : Int} {e : Nat} (hl : 0 < l) (hg : 0 ≤ g) (he : (e : Int) + s ≤ 99) (hp : g * l < 2 ^ e) (hgl : l ≤ g ∨ (e : Int) + s ≤ 98) : ∃ e' : Nat, (e' : Int) + (s + 1) ≤ 99 ∧ l * (g % l) < 2 ^ e' ∧ (0 ≤ g % l ∧ g % l < l) := by
  have hr := Int.emod_nonneg g (show l ≠ 0 by omega)
  have hr2 := Int.emod_lt_of_pos g hl
  by_cases h : l ≤ g
  · cases e with
    | zero =>
      exfalso
      have : 1 * 1 ≤ g * l := Int.mul_le_mul (by omega) (by omega) (by omega) (by omega)
      omega
    | succ e =>
      refine ⟨e, by omega, ?_, hr, hr2⟩
      have hq : l * (g / l) + g % l = g := Int.mul_ediv_add_emod g l
      have hq1 : 1 ≤ g / l := by
        rcases Int.lt_or_le (g / l) 1 with q | q
        · exfalso
          have : g / l ≤ 0 := by omega
          have : l * (g / l) ≤ l * 0 := Int.mul_le_mul_of_nonneg_left this (by omega)
          omega
        · exact q
      have h1 : l * 1 ≤ l * (g / l) := Int.mul_le_mul_of_nonneg_left hq1 (by omega)
      have h2 : l + g % l ≤ g := by omega
      have h3 : (l + g % l) * l ≤ g * l := Int.mul_le_mul_of_nonneg_right h2 (by omega)
      rw [Int.add_mul] at h3
      have h4 : (g % l) * l ≤ l * l := Int.mul_le_mul_of_nonneg_right (by omega) (by omega)
      rw [Int.pow_succ] at hp
      rw [Int.mul_comm l (g % l)]
      omega
  · refine ⟨e, by omega, ?_, hr, hr2⟩
    rw [Int.emod_eq_of_lt hg (by omega), Int.mul_comm]
    exact hp
theorem lcI_z {a b : Int} : lcI a b = 0 ↔ a = b := by unfold lcI; (repeat' split) <;> omega
theorem lcI_gt {a b : Int} : 0 < lcI a b ↔ b < a := by unfold lcI; (repeat' split) <;> omega
theorem gc_prod {a b : Int} (ha : 0 ≤ a ∧ a ≤ 2199023255552) (hb : 0 ≤ b ∧ b ≤ 2199023255552) : a * b < 2 ^ 90 := by
  have h1 : a * b ≤ 2199023255552 * 2199023255552 := Int.mul_le_mul ha.2 hb.2 hb.1 (by omega)
  have h2 : (2199023255552 * 2199023255552 : Int) < 2 ^ 90 := by decide
  omega
set_option maxRecDepth 100000 in
set_option maxHeartbeats 4000000 in
theorem c_Top_gcd {l : Launch} {w : AW} {a b : Int} (ha : 0 ≤ a ∧ a ≤ 2199023255552) (hb : 0 ≤ b ∧ b ≤ 2199023255552) : Call l m_Top_greatestCommonDivisor false 68 68 [aL a, aL b] w (rt (some (aL (gcdI a b))) w) := by
  refine Call.of (L := [some (aL a), none, some (aL b), none, none, none, none, none, none, none, none]) rfl (Nat.le_of_ble_eq_true rfl) rfl (fun G ad => ?_)
  refine j_lload_n (pc' := 1) (z := a) dX11_greatestCommonDivisor_0 rfl rfl ?_
  refine j_lstore (pc' := 3) (L' := [some (aL a), none, some (aL b), none, some (aL a), none, none, none, none, none, none]) dX11_greatestCommonDivisor_1 rfl (by decide) rfl ?_
  refine j_lload_n (pc' := 4) (z := b) dX11_greatestCommonDivisor_3 rfl rfl ?_
  refine j_lstore (pc' := 6) (L' := [some (aL a), none, some (aL b), none, some (aL a), none, some (aL b), none, none, none, none]) dX11_greatestCommonDivisor_4 rfl (by decide) rfl ?_
  refine j_iconst (pc' := 7) dX11_greatestCommonDivisor_6 rfl ?_
  refine j_istore (pc' := 9) (L' := [some (aL a), none, some (aL b), none, some (aL a), none, some (aL b), none, some (aI 0), none, none]) dX11_greatestCommonDivisor_7 rfl (by decide) rfl ?_
  have lp9 : ∀ (k9 : Nat) (g : Int) (x : Int) (s : Int) (e : Nat), (0 ≤ s ∧ s ≤ 100) → (0 ≤ g ∧ g ≤ 2199023255552) → (0 ≤ x ∧ x ≤ 2199023255552) → ((e : Int) + s ≤ 99) → (g * x < 2 ^ e) → (x ≤ g ∨ (e : Int) + s ≤ 98) → (gcdI g x = gcdI a b) → ((100 - s).toNat) = k9 → J l m_Top_greatestCommonDivisor ad G [] false (jZ ad G false 68 m_Top_greatestCommonDivisor.2.2.2.2.cells m_Top_greatestCommonDivisor.2.2.2.2.slots (rt (some (aL (gcdI a b))) w)) 68 0 0 9 [some (aL a), none, some (aL b), none, some (aL g), none, some (aL x), none, some (aI s), none, none] [] w := by
    intro k9
    induction k9 using Nat.strongRecOn with
    | _ k9 ih9 =>
      intro g x s e hs hg hx he hp hgx hgc hk9
      refine j_iload (pc' := 11) (z := s) dX11_greatestCommonDivisor_9 rfl rfl ?_
      refine j_bipush (pc' := 13) dX11_greatestCommonDivisor_11 rfl (by decide) ?_
      refine j_icmp_ge (tgt := 44) (pc' := 16) dX11_greatestCommonDivisor_13 (by decide) rfl (by omega) (by omega) (fun h13 => ?_) (fun h13 => ?_)
      · refine j_lload (pc' := 46) (z := g) dX11_greatestCommonDivisor_44 rfl rfl ?_
        exact j_lret dX11_greatestCommonDivisor_46 rfl (rt_eqL (by first | (exfalso; omega) | (rw [← hgc, show x = 0 by omega]; exact (gcdI_0 hg.1).symm)))
      · refine j_lload (pc' := 18) (z := x) dX11_greatestCommonDivisor_16 rfl rfl ?_
        refine j_lconst (pc' := 19) (z := 0) dX11_greatestCommonDivisor_18 rfl rfl ?_
        have hlz := lcI_z (a := x) (b := 0)
        have hlb := lcI_bd (a := x) (b := 0)
        refine j_lcmp (pc' := 20) dX11_greatestCommonDivisor_19 rfl (by omega) (by omega) ?_
        refine j_if_eq (tgt := 44) (pc' := 23) dX11_greatestCommonDivisor_20 (by decide) rfl (by omega) (fun h20 => ?_) (fun h20 => ?_)
        · refine j_lload (pc' := 46) (z := g) dX11_greatestCommonDivisor_44 rfl rfl ?_
          exact j_lret dX11_greatestCommonDivisor_46 rfl (rt_eqL (by first | (exfalso; omega) | (rw [← hgc, show x = 0 by omega]; exact (gcdI_0 hg.1).symm)))
        · have hx0 : 0 < x := by omega
          obtain ⟨e1, k1, k2, k3⟩ := gc_step hx0 hg.1 he hp hgx
          refine j_lload (pc' := 25) (z := g) dX11_greatestCommonDivisor_23 rfl rfl ?_
          refine j_lload (pc' := 27) (z := x) dX11_greatestCommonDivisor_25 rfl rfl ?_
          refine j_lrem (pc' := 28) dX11_greatestCommonDivisor_27 rfl (by omega) (by omega) ?_
          refine j_lstore (pc' := 30) (L' := [some (aL a), none, some (aL b), none, some (aL g), none, some (aL x), none, some (aI s), some (aL (g % x)), none]) dX11_greatestCommonDivisor_28 rfl (by decide) rfl ?_
          refine j_lload (pc' := 32) (z := x) dX11_greatestCommonDivisor_30 rfl rfl ?_
          refine j_lstore (pc' := 34) (L' := [some (aL a), none, some (aL b), none, some (aL x), none, some (aL x), none, some (aI s), some (aL (g % x)), none]) dX11_greatestCommonDivisor_32 rfl (by decide) rfl ?_
          refine j_lload (pc' := 36) (z := (g % x)) dX11_greatestCommonDivisor_34 rfl rfl ?_
          refine j_lstore (pc' := 38) (L' := [some (aL a), none, some (aL b), none, some (aL x), none, some (aL (g % x)), none, some (aI s), some (aL (g % x)), none]) dX11_greatestCommonDivisor_36 rfl (by decide) rfl ?_
          refine j_iinc (pc' := 41) (z := s) (L' := [some (aL a), none, some (aL b), none, some (aL x), none, some (aL (g % x)), none, some (aI (s + 1)), some (aL (g % x)), none]) dX11_greatestCommonDivisor_38 rfl (by decide) rfl rfl rfl ?_
          refine j_goto (pc' := 9) dX11_greatestCommonDivisor_41 (by decide) ?_
          refine j_forget 9 (L' := [some (aL a), none, some (aL b), none, some (aL x), none, some (aL (g % x)), none, some (aI (s + 1)), none, none]) rfl ?_
          exact ih9 _ (by omega) x (g % x) (s + 1) e1 (by omega) (by omega) (by omega) (by omega) (by exact k2) (by omega) (by rw [gcdI_s hg.1 hx0]; exact hgc) rfl
  exact lp9 _ a b 0 90 (by omega) (by omega) (by omega) (by omega) (by exact gc_prod ha hb) (by omega) (by rfl) rfl
set_option maxRecDepth 100000 in
set_option maxHeartbeats 4000000 in
theorem c_Top_inLeastTerms {l : Launch} {w : AW} {a b p : Int} (ha : 0 ≤ a ∧ a ≤ 2199023255552) (hb : 0 ≤ b ∧ b ≤ 2199023255552) (hp : 0 ≤ p ∧ p ≤ 1) : Call l m_Top_inLeastTerms false 68 68 [aL a, aL b, aI p] w (rt (some (aL (lowT a b p))) w) := by
  refine Call.of (L := [some (aL a), none, some (aL b), none, some (aI p), none, none]) rfl (Nat.le_of_ble_eq_true rfl) rfl (fun G ad => ?_)
  refine j_lload_n (pc' := 1) (z := a) dX11_inLeastTerms_0 rfl rfl ?_
  refine j_lload_n (pc' := 2) (z := b) dX11_inLeastTerms_1 rfl rfl ?_
  refine j_callS (pc' := 5) (as := [aL a, aL b]) (rest := []) dX11_inLeastTerms_2 rfl s_Top_277 (c_Top_gcd (by omega) (by omega)) rfl rfl rfl (jdet (st' := [aL (gcdI a b)]) rfl ?_)
  have hgb := gcdI_bd ha hb
  refine j_lstore (pc' := 7) (L' := [some (aL a), none, some (aL b), none, some (aI p), some (aL (gcdI a b)), none]) dX11_inLeastTerms_5 rfl (by decide) rfl ?_
  refine j_lload_n (pc' := 8) (z := b) dX11_inLeastTerms_7 rfl rfl ?_
  refine j_lconst (pc' := 9) (z := 0) dX11_inLeastTerms_8 rfl rfl ?_
  have hlz := lcI_z (a := b) (b := 0)
  have hlb := lcI_bd (a := b) (b := 0)
  refine j_lcmp (pc' := 10) dX11_inLeastTerms_9 rfl (by omega) (by omega) ?_
  refine j_if_eq (tgt := 20) (pc' := 13) dX11_inLeastTerms_10 (by decide) rfl (by omega) (fun h10 => ?_) (fun h10 => ?_)
  · refine j_iload (pc' := 22) (z := p) dX11_inLeastTerms_20 rfl rfl ?_
    refine j_if_ne (tgt := 29) (pc' := 25) dX11_inLeastTerms_22 (by decide) rfl (by omega) (fun h22 => ?_) (fun h22 => ?_)
    · refine j_lconst (pc' := 30) (z := 1) dX11_inLeastTerms_29 rfl rfl ?_
      exact j_lret dX11_inLeastTerms_30 rfl (rt_eqL (by unfold lowT; first | (rw [if_pos (by omega)]; (repeat' split) <;> first | rfl | omega)))
    · refine j_lconst (pc' := 26) (z := 0) dX11_inLeastTerms_25 rfl rfl ?_
      refine j_goto (pc' := 30) dX11_inLeastTerms_26 (by decide) ?_
      exact j_lret dX11_inLeastTerms_30 rfl (rt_eqL (by unfold lowT; first | (rw [if_pos (by omega)]; (repeat' split) <;> first | rfl | omega)))
  · refine j_lload (pc' := 15) (z := (gcdI a b)) dX11_inLeastTerms_13 rfl rfl ?_
    have hlz2 := lcI_z (a := gcdI a b) (b := 0)
    have hlb2 := lcI_bd (a := gcdI a b) (b := 0)
    refine j_lconst (pc' := 16) (z := 0) dX11_inLeastTerms_15 rfl rfl ?_
    refine j_lcmp (pc' := 17) dX11_inLeastTerms_16 rfl (by omega) (by omega) ?_
    refine j_if_ne (tgt := 31) (pc' := 20) dX11_inLeastTerms_17 (by decide) rfl (by omega) (fun h17 => ?_) (fun h17 => ?_)
    · refine j_iload (pc' := 33) (z := p) dX11_inLeastTerms_31 rfl rfl ?_
      refine j_if_ne (tgt := 43) (pc' := 36) dX11_inLeastTerms_33 (by decide) rfl (by omega) (fun h33 => ?_) (fun h33 => ?_)
      · refine j_lload_n (pc' := 44) (z := b) dX11_inLeastTerms_43 rfl rfl ?_
        refine j_lload (pc' := 46) (z := (gcdI a b)) dX11_inLeastTerms_44 rfl rfl ?_
        refine j_ldiv (pc' := 47) dX11_inLeastTerms_46 rfl (by omega) (by omega) ?_
        exact j_lret dX11_inLeastTerms_47 rfl (rt_eqL (by unfold lowT; first | (rw [if_neg (by omega)]; (repeat' split) <;> first | rfl | omega)))
      · refine j_lload_n (pc' := 37) (z := a) dX11_inLeastTerms_36 rfl rfl ?_
        refine j_lload (pc' := 39) (z := (gcdI a b)) dX11_inLeastTerms_37 rfl rfl ?_
        refine j_ldiv (pc' := 40) dX11_inLeastTerms_39 rfl (by omega) (by omega) ?_
        refine j_goto (pc' := 47) dX11_inLeastTerms_40 (by decide) ?_
        exact j_lret dX11_inLeastTerms_47 rfl (rt_eqL (by unfold lowT; first | (rw [if_neg (by omega)]; (repeat' split) <;> first | rfl | omega)))
    · refine j_iload (pc' := 22) (z := p) dX11_inLeastTerms_20 rfl rfl ?_
      refine j_if_ne (tgt := 29) (pc' := 25) dX11_inLeastTerms_22 (by decide) rfl (by omega) (fun h22 => ?_) (fun h22 => ?_)
      · refine j_lconst (pc' := 30) (z := 1) dX11_inLeastTerms_29 rfl rfl ?_
        exact j_lret dX11_inLeastTerms_30 rfl (rt_eqL (by unfold lowT; first | (rw [if_pos (by omega)]; (repeat' split) <;> first | rfl | omega)))
      · refine j_lconst (pc' := 26) (z := 0) dX11_inLeastTerms_25 rfl rfl ?_
        refine j_goto (pc' := 30) dX11_inLeastTerms_26 (by decide) ?_
        exact j_lret dX11_inLeastTerms_30 rfl (rt_eqL (by unfold lowT; first | (rw [if_pos (by omega)]; (repeat' split) <;> first | rfl | omega)))
def lkF (F : Int → Int) (r seat k : Int) : Int := if F k = seat then 3 * r else 10 - r
def lk (F : Int → Int) (sz r seat : Int) : Int := foldI (fun k x => x * lkF F r seat k) 1 sz
theorem lkF_bd {F : Int → Int} {r seat k : Int} (hr : 0 ≤ r ∧ r ≤ 9) : 0 ≤ lkF F r seat k ∧ lkF F r seat k ≤ 27 := by unfold lkF; split <;> omega
theorem lk_s {F : Int → Int} {sz r seat : Int} (h : 0 ≤ sz) : lk F (sz + 1) r seat = lk F sz r seat * lkF F r seat sz := foldI_s h
theorem lk_pw {F : Int → Int} {r seat : Int} (hr : 0 ≤ r ∧ r ≤ 9) (m : Nat) : 0 ≤ lk F m r seat ∧ lk F m r seat ≤ 27 ^ m := by
  induction m with
  | zero => exact ⟨by show (0 : Int) ≤ 1; omega, by show (1 : Int) ≤ 1; omega⟩
  | succ m ih =>
    rw [show ((m + 1 : Nat) : Int) = (m : Int) + 1 by omega, lk_s (by omega), Int.pow_succ]
    have h := lkF_bd (F := F) (seat := seat) (k := m) hr
    exact ⟨Int.mul_nonneg ih.1 h.1, Int.mul_le_mul ih.2 h.2 h.1 (Int.pow_nonneg (by omega))⟩
theorem lk_bd {F : Int → Int} {sz r seat : Int} (hr : 0 ≤ r ∧ r ≤ 9) (hz : 0 ≤ sz ∧ sz ≤ 8) : 0 ≤ lk F sz r seat ∧ lk F sz r seat ≤ 282429536481 := by
  have h := lk_pw (F := F) (seat := seat) hr sz.toNat
  rw [Int.toNat_of_nonneg hz.1] at h
  have h2 : (27 : Int) ^ sz.toNat ≤ 282429536481 := by
    rcases (show sz = 0 ∨ sz = 1 ∨ sz = 2 ∨ sz = 3 ∨ sz = 4 ∨ sz = 5 ∨ sz = 6 ∨ sz = 7 ∨ sz = 8 by omega) with rfl | rfl | rfl | rfl | rfl | rfl | rfl | rfl | rfl <;> decide
  omega
def seatP (F : Int → Int) (i : Int) : Bool := decide (0 ≤ F i ∧ F i ≤ 3)
def tsR (sh E : Int → Int → Int) (d : Int) : Int := if rowR sh d = 0 then (if 8 < sh 4 d then -13 else if allI (seatP (E d)) (sh 4 d) = true then 0 else -13) else rowR sh d
theorem tsR_bd {sh E : Int → Int → Int} {d : Int} : -13 ≤ tsR sh E d ∧ tsR sh E d ≤ 0 := by
  have := rowR_bd (sh := sh) (d := d)
  unfold tsR; (repeat' split) <;> omega
theorem tsR_0 {sh E : Int → Int → Int} {d : Int} (h : tsR sh E d = 0) : ((0 ≤ d ∧ d ≤ 7) ∧ sh 0 d = 2) ∧ sh 4 d ≤ 8 := by
  unfold tsR at h
  split at h
  · split at h
    · omega
    · exact ⟨rowR_0 (by assumption), by omega⟩
  · omega
def lkS (F : Int → Int) (sz r k : Int) : Int := foldI (fun s x => x + lk F sz r s) 0 k
theorem lkS_bd {F : Int → Int} {sz r k : Int} (hr : 0 ≤ r ∧ r ≤ 9) (hz : 0 ≤ sz ∧ sz ≤ 8) (hk : 0 ≤ k ∧ k ≤ 4) : 0 ≤ lkS F sz r k ∧ lkS F sz r k ≤ 1129718145924 := by
  have e : lkS F sz r k = sumI (lk F sz r) k := rfl
  have := sumI_bd (f := lk F sz r) (n := k) (lo := 0) (hi := 282429536481) hk.1 (fun s _ _ => lk_bd hr hz)
  rw [e]; omega
def earA (sh E : Int → Int → Int) (d r s p : Int) : Int := if (0 ≤ r ∧ r ≤ 9) ∧ (0 ≤ s ∧ s ≤ 3) ∧ (0 ≤ p ∧ p ≤ 1) then (if tsR sh E d = 0 then lowT (lk (E d) (sh 4 d) r s) (lkS (E d) (sh 4 d) r 4) p else -1000000000 + tsR sh E d) else -1000000001
def lkB (F : Int → Int) (sz r : Int) (k b : Int) : Int := if lk F sz r b < lk F sz r (k + 1) then k + 1 else b
def likA (sh E : Int → Int → Int) (d r : Int) : Int := if 0 ≤ r ∧ r ≤ 9 then (if tsR sh E d = 0 then foldI (lkB (E d) (sh 4 d) r) 0 3 else tsR sh E d) else -1
set_option maxRecDepth 100000 in
set_option maxHeartbeats 4000000 in
theorem c_Top_likelihood {l : Launch} {w : AW} {q : Nat} {ct k f so sz : Int} {E : Int → Int} {r seat : Int} (hS : ShelfAt w q ct k f so sz E) (hK : ShelfOK ct k f so sz E) (hq : q + 2 ≤ 68) (hr : 0 ≤ r ∧ r ≤ 9) (hse : 0 ≤ seat ∧ seat ≤ 3) (hz8 : sz ≤ 8) : Call l m_Top_likelihood false 68 68 [aR q, aI r, aI seat] w (rt (some (aL (lk E sz r seat))) w) := by
  obtain ⟨hO, hE⟩ := hS
  obtain ⟨hct, hk, hf, hso, hsz, hEb⟩ := hK
  refine Call.of (L := [some (aR q), some (aI r), some (aI seat), none, none, none]) rfl (Nat.le_of_ble_eq_true rfl) rfl (fun G ad => ?_)
  refine j_lconst (pc' := 1) (z := 1) dX11_likelihood_0 rfl rfl ?_
  refine j_lstore_n (pc' := 2) (L' := [some (aR q), some (aI r), some (aI seat), some (aL 1), none, none]) dX11_likelihood_1 rfl (by decide) rfl ?_
  refine j_iconst (pc' := 3) dX11_likelihood_2 rfl ?_
  refine j_istore (pc' := 5) (L' := [some (aR q), some (aI r), some (aI seat), some (aL 1), none, some (aI 0)]) dX11_likelihood_3 rfl (by decide) rfl ?_
  have lp5 : ∀ (k9 : Nat) (v : Int) (i : Int), (0 ≤ i ∧ i ≤ sz) → (v = lk E i r seat) → (0 ≤ v ∧ v ≤ 282429536481) → ((sz - i).toNat) = k9 → J l m_Top_likelihood ad G [] false (jZ ad G false 68 m_Top_likelihood.2.2.2.2.cells m_Top_likelihood.2.2.2.2.slots (rt (some (aL (lk E sz r seat))) w)) 68 0 0 5 [some (aR q), some (aI r), some (aI seat), some (aL v), none, some (aI i)] [] w := by
    intro k9
    induction k9 using Nat.strongRecOn with
    | _ k9 ih5 =>
      intro v i hi hv hvb hk5
      refine j_iload (pc' := 7) (z := i) dX11_likelihood_5 rfl rfl ?_
      refine j_aload_n (pc' := 8) (z := q) dX11_likelihood_7 rfl rfl ?_
      refine j_get (pc' := 11) (v := aI sz) dX11_likelihood_8 rfl f_Top_259 (by omega) hO rfl ?_
      refine j_icmp_ge (tgt := 46) (pc' := 14) dX11_likelihood_11 (by decide) rfl (by omega) (by omega) (fun h11 => ?_) (fun h11 => ?_)
      · refine j_lload_n (pc' := 47) (z := v) dX11_likelihood_46 rfl rfl ?_
        exact j_lret dX11_likelihood_47 rfl (rt_eqL (by rw [hv, show i = sz by omega]))
      · have hEi := hEb i (by omega) (by omega)
        refine j_lload_n (pc' := 15) (z := v) dX11_likelihood_14 rfl rfl ?_
        refine j_aload_n (pc' := 16) (z := q) dX11_likelihood_15 rfl rfl ?_
        refine j_get (pc' := 19) (v := aR (q + 1)) dX11_likelihood_16 rfl f_Top_262 (by omega) hO rfl ?_
        refine j_iload (pc' := 21) (z := i) dX11_likelihood_19 rfl rfl ?_
        refine j_iald (pc' := 22) dX11_likelihood_21 rfl (by omega) hE (by omega) (by decide) ?_
        refine j_iload_n (pc' := 23) (z := seat) dX11_likelihood_22 rfl rfl ?_
        refine j_icmp_ne (tgt := 33) (pc' := 26) dX11_likelihood_23 (by decide) rfl (by omega) (by omega) (fun h23 => ?_) (fun h23 => ?_)
        · refine j_bipush (pc' := 35) dX11_likelihood_33 rfl (by decide) ?_
          refine j_iload_n (pc' := 36) (z := r) dX11_likelihood_35 rfl rfl ?_
          refine j_isub (pc' := 37) dX11_likelihood_36 rfl ?_
          refine j_i2l (pc' := 38) dX11_likelihood_37 rfl (by omega) ?_
          refine j_lmul (pc' := 39) dX11_likelihood_38 rfl ?_
          refine j_lstore_n (pc' := 40) (L' := [some (aR q), some (aI r), some (aI seat), some (aL (v * (10 - r))), none, some (aI i)]) dX11_likelihood_39 rfl (by decide) rfl ?_
          refine j_iinc (pc' := 43) (z := i) (L' := [some (aR q), some (aI r), some (aI seat), some (aL (v * (10 - r))), none, some (aI (i + 1))]) dX11_likelihood_40 rfl (by decide) rfl rfl rfl ?_
          refine j_goto (pc' := 5) dX11_likelihood_43 (by decide) ?_
          exact ih5 _ (by omega) (v * (10 - r)) (i + 1) (by omega) (by rw [hv, lk_s (by omega)]; unfold lkF; first | rw [if_pos h23] | rw [if_neg h23]) (by have hb := lk_bd (F := E) (seat := seat) hr (show 0 ≤ i + 1 ∧ i + 1 ≤ 8 by omega); rw [lk_s (by omega)] at hb; unfold lkF at hb; rw [hv]; first | (rw [if_pos h23] at hb; exact hb) | (rw [if_neg h23] at hb; exact hb)) rfl
        · refine j_iconst (pc' := 27) dX11_likelihood_26 rfl ?_
          refine j_iload_n (pc' := 28) (z := r) dX11_likelihood_27 rfl rfl ?_
          refine j_imul (pc' := 29) dX11_likelihood_28 rfl ?_
          refine j_i2l (pc' := 30) dX11_likelihood_29 rfl (by omega) ?_
          refine j_goto (pc' := 38) dX11_likelihood_30 (by decide) ?_
          refine j_lmul (pc' := 39) dX11_likelihood_38 rfl ?_
          refine j_lstore_n (pc' := 40) (L' := [some (aR q), some (aI r), some (aI seat), some (aL (v * (3 * r))), none, some (aI i)]) dX11_likelihood_39 rfl (by decide) rfl ?_
          refine j_iinc (pc' := 43) (z := i) (L' := [some (aR q), some (aI r), some (aI seat), some (aL (v * (3 * r))), none, some (aI (i + 1))]) dX11_likelihood_40 rfl (by decide) rfl rfl rfl ?_
          refine j_goto (pc' := 5) dX11_likelihood_43 (by decide) ?_
          exact ih5 _ (by omega) (v * (3 * r)) (i + 1) (by omega) (by rw [hv, lk_s (by omega)]; unfold lkF; first | rw [if_pos h23] | rw [if_neg h23]) (by have hb := lk_bd (F := E) (seat := seat) hr (show 0 ≤ i + 1 ∧ i + 1 ≤ 8 by omega); rw [lk_s (by omega)] at hb; unfold lkF at hb; rw [hv]; first | (rw [if_pos h23] at hb; exact hb) | (rw [if_neg h23] at hb; exact hb)) rfl
  exact lp5 _ 1 0 (by omega) (by rfl) (by omega) rfl
set_option maxRecDepth 100000 in
set_option maxHeartbeats 4000000 in
theorem c_Top_toldSeatsRefusal {l : Launch} {w : AW} {D Di : Int → Int → Int} {n mi hi ni mj : Int} {sh E : Int → Int → Int} {d : Int} (hW : Comp w D n mi hi Di ni mj sh E) (hsh : ShOK sh E) (hd : inI d) : Call l m_Top_toldSeatsRefusal false 68 68 [aR 0, aI d] w (rt (some (aI (tsR sh E d))) w) := by
  obtain ⟨hO, hK, hC, ⟨Dt, nt, mt, hCt⟩, hCi, hS34, hSh, ⟨po, hPo⟩, ⟨di, hDi⟩⟩ := hW
  refine Call.of (L := [some (aR 0), some (aI d), none, none, none]) rfl (Nat.le_of_ble_eq_true rfl) rfl (fun G ad => ?_)
  refine j_aload_n (pc' := 1) (z := 0) dX11_toldSeatsRefusal_0 rfl rfl ?_
  refine j_iload_n (pc' := 2) (z := d) dX11_toldSeatsRefusal_1 rfl rfl ?_
  refine j_callV (pc' := 5) (as := [aI d]) (rest := []) dX11_toldSeatsRefusal_2 rfl s_Top_70 (c_Top_rowRefusal ⟨hO, hK, hC, ⟨Dt, nt, mt, hCt⟩, hCi, hS34, hSh, ⟨po, hPo⟩, ⟨di, hDi⟩⟩ hsh (by omega)) (by omega) hO rfl rfl rfl rfl (jdet (st' := [aI (rowR sh d)]) rfl ?_)
  refine j_istore_n (pc' := 6) (L' := [some (aR 0), some (aI d), some (aI (rowR sh d)), none, none]) dX11_toldSeatsRefusal_5 rfl (by decide) rfl ?_
  refine j_iload_n (pc' := 7) (z := (rowR sh d)) dX11_toldSeatsRefusal_6 rfl rfl ?_
  have hrb := rowR_bd (sh := sh) (d := d)
  refine j_if_eq (tgt := 12) (pc' := 10) dX11_toldSeatsRefusal_7 (by decide) rfl (by omega) (fun h7 => ?_) (fun h7 => ?_)
  · obtain ⟨hd7, hct⟩ := rowR_0 h7
    obtain ⟨q1, q2, q3, q4, q5, q6⟩ := id (hsh d hd7)
    refine j_aload_n (pc' := 13) (z := 0) dX11_toldSeatsRefusal_12 rfl rfl ?_
    refine j_get (pc' := 16) (v := aR 34) dX11_toldSeatsRefusal_13 rfl f_Top_58 (by omega) hO rfl ?_
    refine j_iload_n (pc' := 17) (z := d) dX11_toldSeatsRefusal_16 rfl rfl ?_
    refine j_aald (pc' := 18) (r := (35 + 2 * (d).toNat)) (Cn := "RattleAtFifty$Shelf") dX11_toldSeatsRefusal_17 rfl (by omega) hS34 rfl (by omega) (by decide) rfl ?_
    refine j_astore_n (pc' := 19) (L' := [some (aR 0), some (aI d), some (aI (rowR sh d)), some (aR (35 + 2 * (d).toNat)), none]) dX11_toldSeatsRefusal_18 rfl (by decide) rfl ?_
    refine j_aload_n (pc' := 20) (z := (35 + 2 * (d).toNat)) dX11_toldSeatsRefusal_19 rfl rfl ?_
    refine j_get (pc' := 23) (v := aI (sh 4 d)) dX11_toldSeatsRefusal_20 rfl f_Top_259 (by omega) (hSh d (by omega)).1 rfl ?_
    refine j_bipush (pc' := 25) dX11_toldSeatsRefusal_23 rfl (by decide) ?_
    refine j_icmp_le (tgt := 31) (pc' := 28) dX11_toldSeatsRefusal_25 (by decide) rfl (by omega) (by omega) (fun h25 => ?_) (fun h25 => ?_)
    · refine j_iconst (pc' := 32) dX11_toldSeatsRefusal_31 rfl ?_
      refine j_istore (pc' := 34) (L' := [some (aR 0), some (aI d), some (aI (rowR sh d)), some (aR (35 + 2 * (d).toNat)), some (aI 0)]) dX11_toldSeatsRefusal_32 rfl (by decide) rfl ?_
      have lp34 : ∀ (k9 : Nat) (i : Int), (0 ≤ i ∧ i ≤ sh 4 d) → (allI (seatP (E d)) i = true) → ((sh 4 d - i).toNat) = k9 → J l m_Top_toldSeatsRefusal ad G [] false (jZ ad G false 68 m_Top_toldSeatsRefusal.2.2.2.2.cells m_Top_toldSeatsRefusal.2.2.2.2.slots (rt (some (aI (tsR sh E d))) w)) 68 0 0 34 [some (aR 0), some (aI d), some (aI (rowR sh d)), some (aR (35 + 2 * (d).toNat)), some (aI i)] [] w := by
        intro k9
        induction k9 using Nat.strongRecOn with
        | _ k9 ih34 =>
          intro i hi9 ha hk34
          refine j_iload (pc' := 36) (z := i) dX11_toldSeatsRefusal_34 rfl rfl ?_
          refine j_aload_n (pc' := 37) (z := (35 + 2 * (d).toNat)) dX11_toldSeatsRefusal_36 rfl rfl ?_
          refine j_get (pc' := 40) (v := aI (sh 4 d)) dX11_toldSeatsRefusal_37 rfl f_Top_259 (by omega) (hSh d (by omega)).1 rfl ?_
          refine j_icmp_ge (tgt := 65) (pc' := 43) dX11_toldSeatsRefusal_40 (by decide) rfl (by omega) (by omega) (fun h40 => ?_) (fun h40 => ?_)
          · refine j_iconst (pc' := 66) dX11_toldSeatsRefusal_65 rfl ?_
            exact j_iret dX11_toldSeatsRefusal_66 rfl (rt_eq (by unfold tsR; rw [if_pos h7, if_neg (by omega), if_pos (by rw [show sh 4 d = i by omega]; exact ha)]))
          · have hEi := q6 i (by omega) (by omega)
            refine j_aload_n (pc' := 44) (z := (35 + 2 * (d).toNat)) dX11_toldSeatsRefusal_43 rfl rfl ?_
            refine j_get (pc' := 47) (v := aR (35 + 2 * (d).toNat + 1)) dX11_toldSeatsRefusal_44 rfl f_Top_262 (by omega) (hSh d (by omega)).1 rfl ?_
            refine j_iload (pc' := 49) (z := i) dX11_toldSeatsRefusal_47 rfl rfl ?_
            refine j_iald (pc' := 50) dX11_toldSeatsRefusal_49 rfl (by omega) (hSh d (by omega)).2 (by omega) (by decide) ?_
            refine j_callS (pc' := 53) (as := [aI (E d i)]) (rest := []) dX11_toldSeatsRefusal_50 rfl s_Top_123 (c_isSeat (by omega)) rfl rfl rfl (jdet (st' := [aB (0 ≤ E d i ∧ E d i ≤ 3)]) rfl ?_)
            refine j_ifb_ne (tgt := 59) (pc' := 56) dX11_toldSeatsRefusal_53 (by decide) rfl (fun h53 => ?_) (fun h53 => ?_)
            · refine j_iinc (pc' := 62) (z := i) (L' := [some (aR 0), some (aI d), some (aI (rowR sh d)), some (aR (35 + 2 * (d).toNat)), some (aI (i + 1))]) dX11_toldSeatsRefusal_59 rfl (by decide) rfl rfl rfl ?_
              refine j_goto (pc' := 34) dX11_toldSeatsRefusal_62 (by decide) ?_
              exact ih34 _ (by omega) (i + 1) (by omega) (by rw [allI_s (by omega), ha, Bool.true_and]; exact decide_eq_true h53) rfl
            · refine j_bipush (pc' := 58) dX11_toldSeatsRefusal_56 rfl (by decide) ?_
              exact j_iret dX11_toldSeatsRefusal_58 rfl (rt_eq (by unfold tsR; rw [if_pos h7, if_neg (by omega), if_neg (allI_no (k := i) (by omega) (fun q9 => h53 (of_decide_eq_true q9)))]))
      exact lp34 _ 0 (by omega) (by rfl) rfl
    · refine j_bipush (pc' := 30) dX11_toldSeatsRefusal_28 rfl (by decide) ?_
      exact j_iret dX11_toldSeatsRefusal_30 rfl (rt_eq (by unfold tsR; rw [if_pos h7, if_pos (by omega)]))
  · refine j_iload_n (pc' := 11) (z := (rowR sh d)) dX11_toldSeatsRefusal_10 rfl rfl ?_
    exact j_iret dX11_toldSeatsRefusal_11 rfl (rt_eq (by unfold tsR; rw [if_neg h7]))
set_option maxRecDepth 100000 in
set_option maxHeartbeats 4000000 in
theorem c_Top_ear {l : Launch} {w : AW} {D Di : Int → Int → Int} {n mi hi ni mj : Int} {sh E : Int → Int → Int} {d r s p : Int} (hW : Comp w D n mi hi Di ni mj sh E) (hB : CarOK D n mi) (hI : CarOK Di ni mj) (hhi : hi = 0 ∨ hi = 1) (hsh : ShOK sh E) (hd : inI d) (hr : inI r) (hs : inI s) (hp : inI p) : Call l m_Top_ear false 68 68 [aR 0, aI d, aI r, aI s, aI p] w (jCL w (earA sh E d r s p) D n mi hi Di ni mj sh E) := by
  have hT := TS.rf hW
  obtain ⟨hO, hK, hC, ⟨Dt, nt, mt, hCt⟩, hCi, hS34, hSh, ⟨po, hPo⟩, ⟨di, hDi⟩⟩ := hW
  obtain ⟨hn, hD, hs0, hs1, hs2, hs3⟩ := id hB
  refine Call.of (L := [some (aR 0), some (aI d), some (aI r), some (aI s), some (aI p), none, none, none, none, none]) rfl (Nat.le_of_ble_eq_true rfl) rfl (fun G ad => ?_)
  refine j_iload_n (pc' := 1) (z := r) dX11_ear_0 rfl rfl ?_
  refine j_iconst (pc' := 2) dX11_ear_1 rfl ?_
  refine j_bipush (pc' := 4) dX11_ear_2 rfl (by decide) ?_
  refine j_callS (pc' := 7) (as := [aI r, aI 0, aI 9]) (rest := []) dX11_ear_4 rfl s_Top_126 (c_within (by omega) (by omega) (by omega)) rfl rfl rfl (jdet (st' := [aB (0 ≤ r ∧ r ≤ 9)]) rfl ?_)
  refine j_ifb_eq (tgt := 29) (pc' := 10) dX11_ear_7 (by decide) rfl (fun h7 => ?_) (fun h7 => ?_)
  · refine j_iconst (pc' := 30) dX11_ear_29 rfl ?_
    refine j_istore (pc' := 32) (L' := [some (aR 0), some (aI d), some (aI r), some (aI s), some (aI p), some (aI 0), none, none, none, none]) dX11_ear_30 rfl (by decide) rfl ?_
    refine j_iload (pc' := 34) (z := 0) dX11_ear_32 rfl rfl ?_
    refine j_if_eq (tgt := 45) (pc' := 37) dX11_ear_34 (by decide) rfl (by omega) (fun h34 => ?_) (fun h34 => ?_)
    · refine j_iconst (pc' := 46) dX11_ear_45 rfl ?_
      refine j_istore (pc' := 48) (L' := [some (aR 0), some (aI d), some (aI r), some (aI s), some (aI p), some (aI 0), some (aI (-1)), none, none, none]) dX11_ear_46 rfl (by decide) rfl ?_
      refine j_iload (pc' := 50) (z := (-1)) dX11_ear_48 rfl rfl ?_
      refine j_if_eq (tgt := 59) (pc' := 53) dX11_ear_50 (by decide) rfl (by omega) (fun h50 => ?_) (fun h50 => ?_)
      · exact absurd h50 (by omega)
      · refine j_iload (pc' := 55) (z := (-1)) dX11_ear_53 rfl rfl ?_
        refine j_callS (pc' := 58) (as := [aI (-1)]) (rest := []) dX11_ear_55 rfl s_Top_224 (c_ofLongs (by omega)) rfl rfl rfl (jdet (st' := [aL (-1000000000 + (-1))]) rfl ?_)
        exact j_lret dX11_ear_58 rfl (jCL_of (by unfold earA; (repeat' split) <;> first | rfl | omega) hT)
    · exact absurd rfl h34
  · refine j_iload_n (pc' := 11) (z := s) dX11_ear_10 rfl rfl ?_
    refine j_callS (pc' := 14) (as := [aI s]) (rest := []) dX11_ear_11 rfl s_Top_123 (c_isSeat (by omega)) rfl rfl rfl (jdet (st' := [aB (0 ≤ s ∧ s ≤ 3)]) rfl ?_)
    refine j_ifb_eq (tgt := 29) (pc' := 17) dX11_ear_14 (by decide) rfl (fun h14 => ?_) (fun h14 => ?_)
    · refine j_iconst (pc' := 30) dX11_ear_29 rfl ?_
      refine j_istore (pc' := 32) (L' := [some (aR 0), some (aI d), some (aI r), some (aI s), some (aI p), some (aI 0), none, none, none, none]) dX11_ear_30 rfl (by decide) rfl ?_
      refine j_iload (pc' := 34) (z := 0) dX11_ear_32 rfl rfl ?_
      refine j_if_eq (tgt := 45) (pc' := 37) dX11_ear_34 (by decide) rfl (by omega) (fun h34 => ?_) (fun h34 => ?_)
      · refine j_iconst (pc' := 46) dX11_ear_45 rfl ?_
        refine j_istore (pc' := 48) (L' := [some (aR 0), some (aI d), some (aI r), some (aI s), some (aI p), some (aI 0), some (aI (-1)), none, none, none]) dX11_ear_46 rfl (by decide) rfl ?_
        refine j_iload (pc' := 50) (z := (-1)) dX11_ear_48 rfl rfl ?_
        refine j_if_eq (tgt := 59) (pc' := 53) dX11_ear_50 (by decide) rfl (by omega) (fun h50 => ?_) (fun h50 => ?_)
        · exact absurd h50 (by omega)
        · refine j_iload (pc' := 55) (z := (-1)) dX11_ear_53 rfl rfl ?_
          refine j_callS (pc' := 58) (as := [aI (-1)]) (rest := []) dX11_ear_55 rfl s_Top_224 (c_ofLongs (by omega)) rfl rfl rfl (jdet (st' := [aL (-1000000000 + (-1))]) rfl ?_)
          exact j_lret dX11_ear_58 rfl (jCL_of (by unfold earA; (repeat' split) <;> first | rfl | omega) hT)
      · exact absurd rfl h34
    · refine j_iload (pc' := 19) (z := p) dX11_ear_17 rfl rfl ?_
      refine j_callS (pc' := 22) (as := [aI p]) (rest := []) dX11_ear_19 rfl s_Top_173 (c_isEither (by omega)) rfl rfl rfl (jdet (st' := [aB (0 ≤ p ∧ p ≤ 1)]) rfl ?_)
      refine j_ifb_eq (tgt := 29) (pc' := 25) dX11_ear_22 (by decide) rfl (fun h22 => ?_) (fun h22 => ?_)
      · refine j_iconst (pc' := 30) dX11_ear_29 rfl ?_
        refine j_istore (pc' := 32) (L' := [some (aR 0), some (aI d), some (aI r), some (aI s), some (aI p), some (aI 0), none, none, none, none]) dX11_ear_30 rfl (by decide) rfl ?_
        refine j_iload (pc' := 34) (z := 0) dX11_ear_32 rfl rfl ?_
        refine j_if_eq (tgt := 45) (pc' := 37) dX11_ear_34 (by decide) rfl (by omega) (fun h34 => ?_) (fun h34 => ?_)
        · refine j_iconst (pc' := 46) dX11_ear_45 rfl ?_
          refine j_istore (pc' := 48) (L' := [some (aR 0), some (aI d), some (aI r), some (aI s), some (aI p), some (aI 0), some (aI (-1)), none, none, none]) dX11_ear_46 rfl (by decide) rfl ?_
          refine j_iload (pc' := 50) (z := (-1)) dX11_ear_48 rfl rfl ?_
          refine j_if_eq (tgt := 59) (pc' := 53) dX11_ear_50 (by decide) rfl (by omega) (fun h50 => ?_) (fun h50 => ?_)
          · exact absurd h50 (by omega)
          · refine j_iload (pc' := 55) (z := (-1)) dX11_ear_53 rfl rfl ?_
            refine j_callS (pc' := 58) (as := [aI (-1)]) (rest := []) dX11_ear_55 rfl s_Top_224 (c_ofLongs (by omega)) rfl rfl rfl (jdet (st' := [aL (-1000000000 + (-1))]) rfl ?_)
            exact j_lret dX11_ear_58 rfl (jCL_of (by unfold earA; (repeat' split) <;> first | rfl | omega) hT)
        · exact absurd rfl h34
      · refine j_iconst (pc' := 26) dX11_ear_25 rfl ?_
        refine j_goto (pc' := 30) dX11_ear_26 (by decide) ?_
        refine j_istore (pc' := 32) (L' := [some (aR 0), some (aI d), some (aI r), some (aI s), some (aI p), some (aI 1), none, none, none, none]) dX11_ear_30 rfl (by decide) rfl ?_
        refine j_iload (pc' := 34) (z := 1) dX11_ear_32 rfl rfl ?_
        refine j_if_eq (tgt := 45) (pc' := 37) dX11_ear_34 (by decide) rfl (by omega) (fun h34 => ?_) (fun h34 => ?_)
        · exact absurd h34 (by omega)
        · refine j_aload_n (pc' := 38) (z := 0) dX11_ear_37 rfl rfl ?_
          refine j_iload_n (pc' := 39) (z := d) dX11_ear_38 rfl rfl ?_
          refine j_callV (pc' := 42) (as := [aI d]) (rest := []) dX11_ear_39 rfl s_Top_248 (c_Top_toldSeatsRefusal hT.1 hsh (by omega)) (by omega) hO rfl rfl rfl rfl (jdet (st' := [aI (tsR sh E d)]) rfl ?_)
          have htb := tsR_bd (sh := sh) (E := E) (d := d)
          refine j_goto (pc' := 46) dX11_ear_42 (by decide) ?_
          refine j_istore (pc' := 48) (L' := [some (aR 0), some (aI d), some (aI r), some (aI s), some (aI p), some (aI 1), some (aI (tsR sh E d)), none, none, none]) dX11_ear_46 rfl (by decide) rfl ?_
          refine j_iload (pc' := 50) (z := (tsR sh E d)) dX11_ear_48 rfl rfl ?_
          refine j_if_eq (tgt := 59) (pc' := 53) dX11_ear_50 (by decide) rfl (by omega) (fun h50 => ?_) (fun h50 => ?_)
          · obtain ⟨⟨hd7, hct⟩, hz8⟩ := tsR_0 h50
            obtain ⟨q1, q2, q3, q4, q5, q6⟩ := id (hsh d hd7)
            refine j_lconst (pc' := 60) (z := 0) dX11_ear_59 rfl rfl ?_
            refine j_lstore (pc' := 62) (L' := [some (aR 0), some (aI d), some (aI r), some (aI s), some (aI p), some (aI 1), some (aI (tsR sh E d)), some (aL 0), none, none]) dX11_ear_60 rfl (by decide) rfl ?_
            refine j_iconst (pc' := 63) dX11_ear_62 rfl ?_
            refine j_istore (pc' := 65) (L' := [some (aR 0), some (aI d), some (aI r), some (aI s), some (aI p), some (aI 1), some (aI (tsR sh E d)), some (aL 0), none, some (aI 0)]) dX11_ear_63 rfl (by decide) rfl ?_
            have lp65 : ∀ (k9 : Nat) (v : Int) (i : Int), (0 ≤ i ∧ i ≤ 4) → (v = lkS (E d) (sh 4 d) r i) → ((4 - i).toNat) = k9 → J l m_Top_ear ad G [] false (jZ ad G false 68 m_Top_ear.2.2.2.2.cells m_Top_ear.2.2.2.2.slots (jCL w (earA sh E d r s p) D n mi hi Di ni mj sh E)) 68 0 0 65 [some (aR 0), some (aI d), some (aI r), some (aI s), some (aI p), some (aI 1), some (aI (tsR sh E d)), some (aL v), none, some (aI i)] [] w := by
              intro k9
              induction k9 using Nat.strongRecOn with
              | _ k9 ih65 =>
                intro v i hi9 hv hk65
                refine j_iload (pc' := 67) (z := i) dX11_ear_65 rfl rfl ?_
                refine j_iconst (pc' := 68) dX11_ear_67 rfl ?_
                refine j_icmp_ge (tgt := 94) (pc' := 71) dX11_ear_68 (by decide) rfl (by omega) (by omega) (fun h68 => ?_) (fun h68 => ?_)
                · refine j_aload_n (pc' := 95) (z := 0) dX11_ear_94 rfl rfl ?_
                  refine j_get (pc' := 98) (v := aR 34) dX11_ear_95 rfl f_Top_58 (by omega) hO rfl ?_
                  refine j_iload_n (pc' := 99) (z := d) dX11_ear_98 rfl rfl ?_
                  refine j_aald (pc' := 100) (r := (35 + 2 * (d).toNat)) (Cn := "RattleAtFifty$Shelf") dX11_ear_99 rfl (by omega) hS34 rfl (by omega) (by decide) rfl ?_
                  refine j_iload_n (pc' := 101) (z := r) dX11_ear_100 rfl rfl ?_
                  refine j_iload_n (pc' := 102) (z := s) dX11_ear_101 rfl rfl ?_
                  refine j_callS (pc' := 105) (as := [aR (35 + 2 * (d).toNat), aI r, aI s]) (rest := []) dX11_ear_102 rfl s_Top_251 (c_Top_likelihood (hSh d (by omega)) (hsh d (by omega)) (by omega) (by omega) (by omega) (by omega)) rfl rfl rfl (jdet (st' := [aL (lk (E d) (sh 4 d) r s)]) rfl ?_)
                  have hl1 := lk_bd (F := E d) (seat := s) (r := r) (sz := sh 4 d) (by omega) (by omega)
                  have hl2 := lkS_bd (F := E d) (r := r) (sz := sh 4 d) (k := 4) (by omega) (by omega) (by omega)
                  have hv4 : v = lkS (E d) (sh 4 d) r 4 := by rw [hv, show i = 4 by omega]
                  refine j_lload (pc' := 107) (z := v) dX11_ear_105 rfl rfl ?_
                  refine j_iload (pc' := 109) (z := p) dX11_ear_107 rfl rfl ?_
                  refine j_callS (pc' := 112) (as := [aL (lk (E d) (sh 4 d) r s), aL v, aI p]) (rest := []) dX11_ear_109 rfl s_Top_231 (c_Top_inLeastTerms (by omega) (by omega) (by omega)) rfl rfl rfl (jdet (st' := [aL (lowT (lk (E d) (sh 4 d) r s) v p)]) rfl ?_)
                  exact j_lret dX11_ear_112 rfl (jCL_of (by unfold earA; rw [if_pos (by omega), if_pos h50, hv4]) hT)
                · refine j_lload (pc' := 73) (z := v) dX11_ear_71 rfl rfl ?_
                  refine j_aload_n (pc' := 74) (z := 0) dX11_ear_73 rfl rfl ?_
                  refine j_get (pc' := 77) (v := aR 34) dX11_ear_74 rfl f_Top_58 (by omega) hO rfl ?_
                  refine j_iload_n (pc' := 78) (z := d) dX11_ear_77 rfl rfl ?_
                  refine j_aald (pc' := 79) (r := (35 + 2 * (d).toNat)) (Cn := "RattleAtFifty$Shelf") dX11_ear_78 rfl (by omega) hS34 rfl (by omega) (by decide) rfl ?_
                  refine j_iload_n (pc' := 80) (z := r) dX11_ear_79 rfl rfl ?_
                  refine j_iload (pc' := 82) (z := i) dX11_ear_80 rfl rfl ?_
                  refine j_callS (pc' := 85) (as := [aR (35 + 2 * (d).toNat), aI r, aI i]) (rest := [aL v]) dX11_ear_82 rfl s_Top_251 (c_Top_likelihood (hSh d (by omega)) (hsh d (by omega)) (by omega) (by omega) (by omega) (by omega)) rfl rfl rfl (jdet (st' := [aL (lk (E d) (sh 4 d) r i), aL v]) rfl ?_)
                  refine j_ladd (pc' := 86) dX11_ear_85 rfl ?_
                  refine j_lstore (pc' := 88) (L' := [some (aR 0), some (aI d), some (aI r), some (aI s), some (aI p), some (aI 1), some (aI (tsR sh E d)), some (aL (v + (lk (E d) (sh 4 d) r i))), none, some (aI i)]) dX11_ear_86 rfl (by decide) rfl ?_
                  refine j_iinc (pc' := 91) (z := i) (L' := [some (aR 0), some (aI d), some (aI r), some (aI s), some (aI p), some (aI 1), some (aI (tsR sh E d)), some (aL (v + (lk (E d) (sh 4 d) r i))), none, some (aI (i + 1))]) dX11_ear_88 rfl (by decide) rfl rfl rfl ?_
                  refine j_goto (pc' := 65) dX11_ear_91 (by decide) ?_
                  exact ih65 _ (by omega) (v + (lk (E d) (sh 4 d) r i)) (i + 1) (by omega) (by rw [hv]; exact (foldI_s (g := fun s x => x + lk (E d) (sh 4 d) r s) (by omega)).symm) rfl
            exact lp65 _ 0 0 (by omega) (by rfl) rfl
          · refine j_iload (pc' := 55) (z := (tsR sh E d)) dX11_ear_53 rfl rfl ?_
            refine j_callS (pc' := 58) (as := [aI (tsR sh E d)]) (rest := []) dX11_ear_55 rfl s_Top_224 (c_ofLongs (by omega)) rfl rfl rfl (jdet (st' := [aL (-1000000000 + (tsR sh E d))]) rfl ?_)
            exact j_lret dX11_ear_58 rfl (jCL_of (by unfold earA; (repeat' split) <;> first | rfl | omega) hT)
set_option maxRecDepth 100000 in
set_option maxHeartbeats 4000000 in
theorem c_Top_likeliest {l : Launch} {w : AW} {D Di : Int → Int → Int} {n mi hi ni mj : Int} {sh E : Int → Int → Int} {d r : Int} (hW : Comp w D n mi hi Di ni mj sh E) (hB : CarOK D n mi) (hI : CarOK Di ni mj) (hhi : hi = 0 ∨ hi = 1) (hsh : ShOK sh E) (hd : inI d) (hr : inI r) : Call l m_Top_likeliest false 68 68 [aR 0, aI d, aI r] w (jC w (likA sh E d r) D n mi hi Di ni mj sh E) := by
  have hT := TS.rf hW
  obtain ⟨hO, hK, hC, ⟨Dt, nt, mt, hCt⟩, hCi, hS34, hSh, ⟨po, hPo⟩, ⟨di, hDi⟩⟩ := hW
  obtain ⟨hn, hD, hs0, hs1, hs2, hs3⟩ := id hB
  refine Call.of (L := [some (aR 0), some (aI d), some (aI r), none, none, none]) rfl (Nat.le_of_ble_eq_true rfl) rfl (fun G ad => ?_)
  refine j_iload_n (pc' := 1) (z := r) dX11_likeliest_0 rfl rfl ?_
  refine j_iconst (pc' := 2) dX11_likeliest_1 rfl ?_
  refine j_bipush (pc' := 4) dX11_likeliest_2 rfl (by decide) ?_
  refine j_callS (pc' := 7) (as := [aI r, aI 0, aI 9]) (rest := []) dX11_likeliest_4 rfl s_Top_126 (c_within (by omega) (by omega) (by omega)) rfl rfl rfl (jdet (st' := [aB (0 ≤ r ∧ r ≤ 9)]) rfl ?_)
  refine j_ifb_eq (tgt := 18) (pc' := 10) dX11_likeliest_7 (by decide) rfl (fun h7 => ?_) (fun h7 => ?_)
  · refine j_iconst (pc' := 19) dX11_likeliest_18 rfl ?_
    refine j_istore_n (pc' := 20) (L' := [some (aR 0), some (aI d), some (aI r), some (aI (-1)), none, none]) dX11_likeliest_19 rfl (by decide) rfl ?_
    refine j_iload_n (pc' := 21) (z := (-1)) dX11_likeliest_20 rfl rfl ?_
    refine j_if_eq (tgt := 26) (pc' := 24) dX11_likeliest_21 (by decide) rfl (by omega) (fun h21 => ?_) (fun h21 => ?_)
    · exact absurd h21 (by omega)
    · refine j_iload_n (pc' := 25) (z := (-1)) dX11_likeliest_24 rfl rfl ?_
      exact j_iret dX11_likeliest_25 rfl (jC_of (by unfold likA; (repeat' split) <;> first | rfl | omega) hT)
  · refine j_aload_n (pc' := 11) (z := 0) dX11_likeliest_10 rfl rfl ?_
    refine j_iload_n (pc' := 12) (z := d) dX11_likeliest_11 rfl rfl ?_
    refine j_callV (pc' := 15) (as := [aI d]) (rest := []) dX11_likeliest_12 rfl s_Top_248 (c_Top_toldSeatsRefusal hT.1 hsh (by omega)) (by omega) hO rfl rfl rfl rfl (jdet (st' := [aI (tsR sh E d)]) rfl ?_)
    have htb := tsR_bd (sh := sh) (E := E) (d := d)
    refine j_goto (pc' := 19) dX11_likeliest_15 (by decide) ?_
    refine j_istore_n (pc' := 20) (L' := [some (aR 0), some (aI d), some (aI r), some (aI (tsR sh E d)), none, none]) dX11_likeliest_19 rfl (by decide) rfl ?_
    refine j_iload_n (pc' := 21) (z := (tsR sh E d)) dX11_likeliest_20 rfl rfl ?_
    refine j_if_eq (tgt := 26) (pc' := 24) dX11_likeliest_21 (by decide) rfl (by omega) (fun h21 => ?_) (fun h21 => ?_)
    · obtain ⟨⟨hd7, hct⟩, hz8⟩ := tsR_0 h21
      obtain ⟨q1, q2, q3, q4, q5, q6⟩ := id (hsh d hd7)
      refine j_iconst (pc' := 27) dX11_likeliest_26 rfl ?_
      refine j_istore (pc' := 29) (L' := [some (aR 0), some (aI d), some (aI r), some (aI (tsR sh E d)), some (aI 0), none]) dX11_likeliest_27 rfl (by decide) rfl ?_
      refine j_iconst (pc' := 30) dX11_likeliest_29 rfl ?_
      refine j_istore (pc' := 32) (L' := [some (aR 0), some (aI d), some (aI r), some (aI (tsR sh E d)), some (aI 0), some (aI 1)]) dX11_likeliest_30 rfl (by decide) rfl ?_
      have lp32 : ∀ (k9 : Nat) (b : Int) (i : Int), (1 ≤ i ∧ i ≤ 4) → (b = foldI (lkB (E d) (sh 4 d) r) 0 (i - 1)) → (0 ≤ b ∧ b ≤ 3) → ((4 - i).toNat) = k9 → J l m_Top_likeliest ad G [] false (jZ ad G false 68 m_Top_likeliest.2.2.2.2.cells m_Top_likeliest.2.2.2.2.slots (jC w (likA sh E d r) D n mi hi Di ni mj sh E)) 68 0 0 32 [some (aR 0), some (aI d), some (aI r), some (aI (tsR sh E d)), some (aI b), some (aI i)] [] w := by
        intro k9
        induction k9 using Nat.strongRecOn with
        | _ k9 ih32 =>
          intro b i hi9 hv hvb hk32
          refine j_iload (pc' := 34) (z := i) dX11_likeliest_32 rfl rfl ?_
          refine j_iconst (pc' := 35) dX11_likeliest_34 rfl ?_
          refine j_icmp_ge (tgt := 76) (pc' := 38) dX11_likeliest_35 (by decide) rfl (by omega) (by omega) (fun h35 => ?_) (fun h35 => ?_)
          · refine j_iload (pc' := 78) (z := b) dX11_likeliest_76 rfl rfl ?_
            exact j_iret dX11_likeliest_78 rfl (jC_of (by unfold likA; rw [if_pos (by omega), if_pos h21, hv, show i - 1 = 3 by omega]) hT)
          · refine j_aload_n (pc' := 39) (z := 0) dX11_likeliest_38 rfl rfl ?_
            refine j_get (pc' := 42) (v := aR 34) dX11_likeliest_39 rfl f_Top_58 (by omega) hO rfl ?_
            refine j_iload_n (pc' := 43) (z := d) dX11_likeliest_42 rfl rfl ?_
            refine j_aald (pc' := 44) (r := (35 + 2 * (d).toNat)) (Cn := "RattleAtFifty$Shelf") dX11_likeliest_43 rfl (by omega) hS34 rfl (by omega) (by decide) rfl ?_
            refine j_iload_n (pc' := 45) (z := r) dX11_likeliest_44 rfl rfl ?_
            refine j_iload (pc' := 47) (z := i) dX11_likeliest_45 rfl rfl ?_
            refine j_callS (pc' := 50) (as := [aR (35 + 2 * (d).toNat), aI r, aI i]) (rest := []) dX11_likeliest_47 rfl s_Top_251 (c_Top_likelihood (hSh d (by omega)) (hsh d (by omega)) (by omega) (by omega) (by omega) (by omega)) rfl rfl rfl (jdet (st' := [aL (lk (E d) (sh 4 d) r i)]) rfl ?_)
            refine j_aload_n (pc' := 51) (z := 0) dX11_likeliest_50 rfl rfl ?_
            refine j_get (pc' := 54) (v := aR 34) dX11_likeliest_51 rfl f_Top_58 (by omega) hO rfl ?_
            refine j_iload_n (pc' := 55) (z := d) dX11_likeliest_54 rfl rfl ?_
            refine j_aald (pc' := 56) (r := (35 + 2 * (d).toNat)) (Cn := "RattleAtFifty$Shelf") dX11_likeliest_55 rfl (by omega) hS34 rfl (by omega) (by decide) rfl ?_
            refine j_iload_n (pc' := 57) (z := r) dX11_likeliest_56 rfl rfl ?_
            refine j_iload (pc' := 59) (z := b) dX11_likeliest_57 rfl rfl ?_
            refine j_callS (pc' := 62) (as := [aR (35 + 2 * (d).toNat), aI r, aI b]) (rest := [aL (lk (E d) (sh 4 d) r i)]) dX11_likeliest_59 rfl s_Top_251 (c_Top_likelihood (hSh d (by omega)) (hsh d (by omega)) (by omega) (by omega) (by omega) (by omega)) rfl rfl rfl (jdet (st' := [aL (lk (E d) (sh 4 d) r b), aL (lk (E d) (sh 4 d) r i)]) rfl ?_)
            have hl1 := lk_bd (F := E d) (seat := i) (r := r) (sz := sh 4 d) (by omega) (by omega)
            have hl2 := lk_bd (F := E d) (seat := b) (r := r) (sz := sh 4 d) (by omega) (by omega)
            have hlg := lcI_gt (a := lk (E d) (sh 4 d) r i) (b := lk (E d) (sh 4 d) r b)
            have hlb := lcI_bd (a := lk (E d) (sh 4 d) r i) (b := lk (E d) (sh 4 d) r b)
            refine j_lcmp (pc' := 63) dX11_likeliest_62 rfl (by omega) (by omega) ?_
            refine j_if_le (tgt := 70) (pc' := 66) dX11_likeliest_63 (by decide) rfl (by omega) (fun h63 => ?_) (fun h63 => ?_)
            · refine j_iinc (pc' := 73) (z := i) (L' := [some (aR 0), some (aI d), some (aI r), some (aI (tsR sh E d)), some (aI b), some (aI (i + 1))]) dX11_likeliest_70 rfl (by decide) rfl rfl rfl ?_
              refine j_goto (pc' := 32) dX11_likeliest_73 (by decide) ?_
              exact ih32 _ (by omega) b (i + 1) (by omega) (by rw [show i + 1 - 1 = (i - 1) + 1 by omega, foldI_s (by omega), ← hv]; unfold lkB; rw [show i - 1 + 1 = i by omega]; first | rw [if_pos (by omega)] | rw [if_neg (by omega)]) (by omega) rfl
            · refine j_iload (pc' := 68) (z := i) dX11_likeliest_66 rfl rfl ?_
              refine j_istore (pc' := 70) (L' := [some (aR 0), some (aI d), some (aI r), some (aI (tsR sh E d)), some (aI i), some (aI i)]) dX11_likeliest_68 rfl (by decide) rfl ?_
              refine j_iinc (pc' := 73) (z := i) (L' := [some (aR 0), some (aI d), some (aI r), some (aI (tsR sh E d)), some (aI i), some (aI (i + 1))]) dX11_likeliest_70 rfl (by decide) rfl rfl rfl ?_
              refine j_goto (pc' := 32) dX11_likeliest_73 (by decide) ?_
              exact ih32 _ (by omega) i (i + 1) (by omega) (by rw [show i + 1 - 1 = (i - 1) + 1 by omega, foldI_s (by omega), ← hv]; unfold lkB; rw [show i - 1 + 1 = i by omega]; first | rw [if_pos (by omega)] | rw [if_neg (by omega)]) (by omega) rfl
      exact lp32 _ 0 1 (by omega) (by rfl) (by omega) rfl
    · refine j_iload_n (pc' := 25) (z := (tsR sh E d)) dX11_likeliest_24 rfl rfl ?_
      exact j_iret dX11_likeliest_25 rfl (jC_of (by unfold likA; (repeat' split) <;> first | rfl | omega) hT)
