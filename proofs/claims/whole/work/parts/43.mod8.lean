theorem fst_ok {P : Int → Bool} {a b r : Int} (hr : a ≤ r ∧ r < b) (h1 : ∀ i, a ≤ i → i < r → ¬ P i = true) (h2 : P r = true) : fstI P a (b - a).toNat = r := by
  have key : ∀ k : Nat, a + k ≤ r → fstI P a (b - a).toNat = fstI P (a + k) (b - (a + k)).toNat := by
    intro k
    induction k with
    | zero => intro _; rw [show a + ((0 : Nat) : Int) = a by omega]
    | succ k ih =>
      intro hk
      rw [ih (by omega), fstI_n (by omega) (h1 _ (by omega) (by omega)), show a + (k : Int) + 1 = a + ((k + 1 : Nat) : Int) by omega]
  have := key (r - a).toNat (by omega)
  rw [this, show a + ((r - a).toNat : Int) = r by omega, fstI_y (by omega) h2]
theorem fst_no {P : Int → Bool} {a b : Int} (h1 : ∀ i, a ≤ i → i < b → ¬ P i = true) : fstI P a (b - a).toNat = -4 := by
  have key : ∀ k : Nat, a + k ≤ b → fstI P a (b - a).toNat = fstI P (a + k) (b - (a + k)).toNat := by
    intro k
    induction k with
    | zero => intro _; rw [show a + ((0 : Nat) : Int) = a by omega]
    | succ k ih =>
      intro hk
      rw [ih (by omega), fstI_n (by omega) (h1 _ (by omega) (by omega)), show a + (k : Int) + 1 = a + ((k + 1 : Nat) : Int) by omega]
  rcases Int.lt_or_le a b with h | h
  · have := key (b - a).toNat (by omega)
    rw [this, show a + ((b - a).toNat : Int) = b by omega, fstI_z (by omega)]
  · exact fstI_z h
/-- the first element that a load does not fit, or the size -/
def wbV (D : Int → Int → Int) (n : Int) (F : Int → Int) (so sz l : Int) : Int := if fstI (fun k => !fokP D n F so l k) 0 sz.toNat = -4 then sz else fstI (fun k => !fokP D n F so l k) 0 sz.toNat
theorem wb_at {D : Int → Int → Int} {n so sz l : Int} {F : Int → Int} (hz : 0 ≤ sz) : (0 ≤ wbV D n F so sz l ∧ wbV D n F so sz l ≤ sz) ∧ (∀ i, 0 ≤ i → i < wbV D n F so sz l → fokP D n F so l i = true) ∧ (wbV D n F so sz l < sz → ¬ fokP D n F so l (wbV D n F so sz l) = true) := by
  have key : ∀ k : Nat, (k : Int) ≤ sz → (∀ i, 0 ≤ i → i < (k : Int) → fokP D n F so l i = true) → fstI (fun k => !fokP D n F so l k) 0 sz.toNat = fstI (fun k => !fokP D n F so l k) k (sz - k).toNat := by
    intro k
    induction k with
    | zero => intro _ _; rw [show sz - ((0 : Nat) : Int) = sz by omega]; rfl
    | succ k ih =>
      intro hk hi
      rw [ih (by omega) (fun i h1 h2 => hi i h1 (by omega)), fstI_n (by omega) (by rw [hi k (by omega) (by omega)]; simp), show (k : Int) + 1 = ((k + 1 : Nat) : Int) by omega]
  by_cases hall : ∀ i, 0 ≤ i → i < sz → fokP D n F so l i = true
  · have e := key sz.toNat (by omega) (fun i h1 h2 => hall i h1 (by omega))
    rw [show ((sz.toNat : Nat) : Int) = sz by omega, fstI_z (by omega)] at e
    have ew : wbV D n F so sz l = sz := by unfold wbV; rw [if_pos e]
    rw [ew]
    exact ⟨by omega, hall, fun h => by omega⟩
  · have ex : ∃ r, (0 ≤ r ∧ r < sz) ∧ (∀ i, 0 ≤ i → i < r → fokP D n F so l i = true) ∧ ¬ fokP D n F so l r = true := by
      have : ∀ m : Nat, (m : Int) ≤ sz → (∀ i, 0 ≤ i → i < (m : Int) → fokP D n F so l i = true) ∨ ∃ r, (0 ≤ r ∧ r < sz) ∧ (∀ i, 0 ≤ i → i < r → fokP D n F so l i = true) ∧ ¬ fokP D n F so l r = true := by
        intro m
        induction m with
        | zero => intro _; exact Or.inl (fun i h1 h2 => by omega)
        | succ m ih =>
          intro hm
          rcases ih (by omega) with h | h
          · by_cases c : fokP D n F so l m = true
            · refine Or.inl (fun i h1 h2 => ?_)
              by_cases im : i = m
              · subst im; exact c
              · exact h i h1 (by omega)
            · exact Or.inr ⟨m, by omega, h, c⟩
          · exact Or.inr h
      rcases this sz.toNat (by omega) with h | h
      · exact absurd (fun i h1 h2 => h i h1 (by omega)) hall
      · exact h
    obtain ⟨r, h1, h2, h3⟩ := ex
    have e := key r.toNat (by omega) (fun i g1 g2 => h2 i g1 (by omega))
    rw [show ((r.toNat : Nat) : Int) = r by omega, fstI_y h1.2 (by simp [h3])] at e
    have ew : wbV D n F so sz l = r := by unfold wbV; rw [e, if_neg (by omega)]
    rw [ew]
    exact ⟨by omega, h2, fun _ => h3⟩
def wbX (D : Int → Int → Int) (n : Int) (F : Int → Int) (so sz k : Int) : Int := foldI (fun l x => max x (wbV D n F so sz l)) 0 k
theorem wbX_s {D : Int → Int → Int} {n so sz k : Int} {F : Int → Int} (h : 0 ≤ k) : wbX D n F so sz (k + 1) = max (wbX D n F so sz k) (wbV D n F so sz k) := foldI_s h
theorem wbX_ok {D : Int → Int → Int} {n so sz : Int} {F : Int → Int} (hz : 0 ≤ sz) (m : Nat) : (0 ≤ wbX D n F so sz m ∧ wbX D n F so sz m ≤ sz) ∧ (∀ l, 0 ≤ l → l < (m : Int) → wbV D n F so sz l ≤ wbX D n F so sz m) ∧ (wbX D n F so sz m = 0 ∨ ∃ l, (0 ≤ l ∧ l < (m : Int)) ∧ wbV D n F so sz l = wbX D n F so sz m) := by
  induction m with
  | zero =>
    have e : wbX D n F so sz ((0 : Nat) : Int) = 0 := rfl
    rw [e]
    exact ⟨by omega, fun l h1 h2 => by omega, Or.inl rfl⟩
  | succ m ih =>
    obtain ⟨i1, i2, i3⟩ := ih
    have hw := (wb_at (D := D) (n := n) (so := so) (sz := sz) (l := m) (F := F) hz).1
    rw [show ((m + 1 : Nat) : Int) = (m : Int) + 1 by omega, wbX_s (by omega)]
    refine ⟨by omega, fun l h1 h2 => ?_, ?_⟩
    · by_cases lm : l = m
      · subst lm; omega
      · have := i2 l h1 (by omega); omega
    · by_cases c : wbX D n F so sz m ≤ wbV D n F so sz m
      · exact Or.inr ⟨m, by omega, by omega⟩
      · rcases i3 with h | ⟨l, h1, h2⟩
        · omega
        · exact Or.inr ⟨l, by omega, by omega⟩
theorem for_P {D : Int → Int → Int} {n so i : Int} {F : Int → Int} : forP D n F so i = true ↔ ∀ l, 0 ≤ l → l < 6 → ¬ allI (fokP D n F so l) (i + 1) = true := by
  unfold forP
  rw [decide_eq_true_iff]
  have hb := bset_bd' (P := fitP D n F so i 6) (n := 6) (by omega)
  constructor
  · intro h l h1 h2 h3
    have h4 : bt (fitS D n F so i 6) l = 1 := (bset_bt' (P := fitP D n F so i 6) ⟨h1, h2⟩).mpr (by unfold fitP; rw [if_pos h2]; exact h3)
    rw [h] at h4
    have e : bt 0 l = 0 := by unfold bt; rw [Int.zero_ediv]; rfl
    omega
  · intro h
    refine fb_eq (n := 6) (by omega) hb (by decide) (fun p h1 h2 => ?_)
    have e : bt 0 p = 0 := by unfold bt; rw [Int.zero_ediv]; rfl
    constructor
    · intro q
      have := (bset_bt' (P := fitP D n F so i 6) ⟨h1, h2⟩).mp q
      unfold fitP at this
      rw [if_pos h2] at this
      exact absurd this (h p h1 h2)
    · intro q; omega
theorem for_eq {D : Int → Int → Int} {n so sz : Int} {F : Int → Int} (hz : 0 ≤ sz) : fstI (forP D n F so) 0 sz.toNat = if wbX D n F so sz 6 = sz then -4 else wbX D n F so sz 6 := by
  have hx := wbX_ok (D := D) (n := n) (so := so) (F := F) hz 6
  rw [show ((6 : Nat) : Int) = 6 by rfl] at hx
  obtain ⟨i1, i2, i3⟩ := hx
  have h0 : sz.toNat = (sz - 0).toNat := by rw [Int.sub_zero]
  have hno : ∀ i, 0 ≤ i → i < wbX D n F so sz 6 → ¬ forP D n F so i = true := by
    intro i h1 h2 h3
    rcases i3 with h | ⟨l, g1, g2⟩
    · omega
    · refine for_P.mp h3 l g1.1 g1.2 (allI_iff.mpr (fun k k1 k2 => ?_))
      exact (wb_at (l := l) hz).2.1 k k1 (by omega)
  split
  · rename_i h
    rw [h0]
    exact fst_no (fun i h1 h2 => hno i h1 (by omega))
  · rename_i h
    rw [h0]
    refine fst_ok (by omega) (fun i h1 h2 => hno i h1 h2) (for_P.mpr (fun l l1 l2 l3 => ?_))
    have hw := wb_at (D := D) (n := n) (so := so) (sz := sz) (l := l) (F := F) hz
    have hle := i2 l l1 l2
    exact hw.2.2 (by omega) (allI_iff.mp l3 _ (by omega) (by omega))
def winR (x a b : Int) : Int := if x = 1 then b else a
set_option maxRecDepth 100000 in
set_option maxHeartbeats 4000000 in
theorem c_Mod_mends {l : Launch} {w : AW} {D Di : Int → Int → Int} {n mi hi ni mj : Int} {sh E : Int → Int → Int} {x : Int} (hM : Mod w D n mi hi Di ni mj sh E) (hB : CarOK D n mi) (hI : CarOK Di ni mj) (hhi : hi = 0 ∨ hi = 1) (hsh : ShOK sh E) (hwd : WdOK D) (hx : inI x) : Call l m_Mod_mends false 68 68 [aR 53, aI x] w (jM w (mendsA D n x) D n mi hi Di ni mj sh E) := by
  have hT := MS.rf hM
  have hM0 := hM
  obtain ⟨⟨pc, ra, re, fm, se, th, hO⟩, ⟨S, hS, hR⟩, ⟨Sm, hSm⟩, ⟨Si, hSi, hRi⟩, ⟨Sw, hSw⟩, ⟨nu, hnu⟩, ⟨ha, hha⟩, ⟨fg, hfg⟩, ke, kk, kf, so, si, el, ⟨hke, hkk, hkf, hso, hsi, hel⟩, hRel⟩ := hM
  obtain ⟨hn, hD, hs0, hs1, hs2, hs3⟩ := id hB
  refine Call.of (L := [some (aR 53), some (aI x), none, none, none]) rfl (Nat.le_of_ble_eq_true rfl) rfl (fun G ad => ?_)
  refine j_iload_n (pc' := 1) (z := x) dX12_mends_0 rfl rfl ?_
  refine j_iconst (pc' := 2) dX12_mends_1 rfl ?_
  refine j_iconst (pc' := 3) dX12_mends_2 rfl ?_
  refine j_callS (pc' := 6) (as := [aI x, aI 0, aI 1]) (rest := []) dX12_mends_3 rfl s_Mod_49 (c_Mod_isIn (by omega) (by omega) (by omega)) rfl rfl rfl (jdet (st' := [aB (0 ≤ x ∧ x ≤ 1)]) rfl ?_)
  refine j_ifb_ne (tgt := 11) (pc' := 9) dX12_mends_6 (by decide) rfl (fun h6 => ?_) (fun h6 => ?_)
  · refine j_aload_n (pc' := 12) (z := 53) dX12_mends_11 rfl rfl ?_
    refine j_get (pc' := 15) (v := aR 54) dX12_mends_12 rfl f_Mod_9 (by omega) hO rfl ?_
    refine j_aload_n (pc' := 16) (z := 53) dX12_mends_15 rfl rfl ?_
    refine j_get (pc' := 19) (v := aR 55) dX12_mends_16 rfl f_Mod_13 (by omega) hO rfl ?_
    refine j_callS (pc' := 22) (as := [aR 54, aR 55]) (rest := []) dX12_mends_19 rfl s_Mod_134 (c_Mod_lays hS hSm (by omega) (by omega) (by omega)) rfl rfl rfl (jdet (st' := []) rfl ?_)
    refine j_iconst (pc' := 23) dX12_mends_22 rfl ?_
    refine j_istore_n (pc' := 24) (L' := [some (aR 53), some (aI x), some (aI 0), none, none]) dX12_mends_23 rfl (by decide) rfl ?_
    refine j_aload_n (pc' := 25) (z := 53) dX12_mends_24 rfl rfl ?_
    refine j_get (pc' := 28) (v := aR 55) dX12_mends_25 rfl f_Mod_13 (by omega) ((up_n (by omega)).trans hO) rfl ?_
    refine j_iconst (pc' := 29) dX12_mends_28 rfl ?_
    refine j_callS (pc' := 32) (as := [aR 55, aI 0]) (rest := []) dX12_mends_29 rfl s_Mod_150 (c_Mod_loudestAt up_s (by omega) hR.w hB (by omega)) rfl rfl rfl (jdet (st' := [aI ((lst D n 0).1)]) rfl ?_)
    refine j_istore_n (pc' := 33) (L' := [some (aR 53), some (aI x), some (aI 0), some (aI ((lst D n 0).1)), none]) dX12_mends_32 rfl (by decide) rfl ?_
    have lp33 : ∀ (k9 : Nat) (X : Int → Int) (Dx : Int → Int → Int) (t : Int), (0 ≤ t ∧ t ≤ 60) → (Row X Dx n mi) → (CarOK Dx n mi) → (mdR n 60 D = ((mdR n (60 - t).toNat Dx).1, t + (mdR n (60 - t).toNat Dx).2)) → ((60 - t).toNat) = k9 → J l m_Mod_mends ad G [] false (jZ ad G false 68 m_Mod_mends.2.2.2.2.cells m_Mod_mends.2.2.2.2.slots (jM w (mendsA D n x) D n mi hi Di ni mj sh E)) 68 0 0 33 [some (aR 53), some (aI x), some (aI t), some (aI ((lst Dx n 0).1)), none] [] (up w 55 (eI 48 X)) := by
      intro k9
      induction k9 using Nat.strongRecOn with
      | _ k9 ih33 =>
        intro X Dx t hi9 hX hXB hv hk33
        refine j_iload_n (pc' := 34) (z := ((lst Dx n 0).1)) dX12_mends_33 rfl rfl ?_
        have hlb := lst_bd (D := Dx) (s := 0) hn.1
        refine j_if_lt (tgt := 68) (pc' := 37) dX12_mends_34 (by decide) rfl (by omega) (fun h34 => ?_) (fun h34 => ?_)
        · refine j_iload_n (pc' := 69) (z := x) dX12_mends_68 rfl rfl ?_
          refine j_if_ne (tgt := 83) (pc' := 72) dX12_mends_69 (by decide) rfl (by omega) (fun h69 => ?_) (fun h69 => ?_)
          · refine j_aload_n (pc' := 84) (z := 53) dX12_mends_83 rfl rfl ?_
            refine j_get (pc' := 87) (v := aR 55) dX12_mends_84 rfl f_Mod_13 (by omega) ((up_n (by omega)).trans hO) rfl ?_
            refine j_callS (pc' := 90) (as := [aR 55]) (rest := []) dX12_mends_87 rfl s_Mod_206 (c_Mod_figuresOf up_s (by omega) hX.w hXB ) rfl rfl rfl (jdet (st' := [aI (figs Dx n)]) rfl ?_)
            exact j_iret dX12_mends_90 rfl (jM_of (by have hz : mdR n 60 D = (Dx, t) := (by first | (rw [hv, mdR_z (by omega)]; simp; done) | (rw [hv, mdR_n (by omega)]; simp)); unfold mendsA; rw [if_pos (by omega), if_pos (by omega), hz]) hT.m)
          · refine j_iload_n (pc' := 73) (z := ((lst Dx n 0).1)) dX12_mends_72 rfl rfl ?_
            have hlb := lst_bd (D := Dx) (s := 0) hn.1
            refine j_if_lt (tgt := 81) (pc' := 76) dX12_mends_73 (by decide) rfl (by omega) (fun h73 => ?_) (fun h73 => ?_)
            · refine j_iload_n (pc' := 82) (z := t) dX12_mends_81 rfl rfl ?_
              exact j_iret dX12_mends_82 rfl (jM_of (by first | (exfalso; omega) | (have hz : mdR n 60 D = (Dx, t) := (by first | (rw [hv, mdR_z (by omega)]; simp; done) | (rw [hv, mdR_n (by omega)]; simp)); unfold mendsA; rw [if_pos (by omega), if_neg (by omega), hz]; dsimp only; first | rw [if_pos (by omega)] | rw [if_neg (by omega)])) hT.m)
            · refine j_bipush (pc' := 78) dX12_mends_76 rfl (by decide) ?_
              refine j_goto (pc' := 82) dX12_mends_78 (by decide) ?_
              exact j_iret dX12_mends_82 rfl (jM_of (by first | (exfalso; omega) | (have hz : mdR n 60 D = (Dx, t) := (by first | (rw [hv, mdR_z (by omega)]; simp; done) | (rw [hv, mdR_n (by omega)]; simp)); unfold mendsA; rw [if_pos (by omega), if_neg (by omega), hz]; dsimp only; first | rw [if_pos (by omega)] | rw [if_neg (by omega)])) hT.m)
        · refine j_iload_n (pc' := 38) (z := t) dX12_mends_37 rfl rfl ?_
          refine j_bipush (pc' := 40) dX12_mends_38 rfl (by decide) ?_
          refine j_icmp_ge (tgt := 68) (pc' := 43) dX12_mends_40 (by decide) rfl (by omega) (by omega) (fun h40 => ?_) (fun h40 => ?_)
          · refine j_iload_n (pc' := 69) (z := x) dX12_mends_68 rfl rfl ?_
            refine j_if_ne (tgt := 83) (pc' := 72) dX12_mends_69 (by decide) rfl (by omega) (fun h69 => ?_) (fun h69 => ?_)
            · refine j_aload_n (pc' := 84) (z := 53) dX12_mends_83 rfl rfl ?_
              refine j_get (pc' := 87) (v := aR 55) dX12_mends_84 rfl f_Mod_13 (by omega) ((up_n (by omega)).trans hO) rfl ?_
              refine j_callS (pc' := 90) (as := [aR 55]) (rest := []) dX12_mends_87 rfl s_Mod_206 (c_Mod_figuresOf up_s (by omega) hX.w hXB ) rfl rfl rfl (jdet (st' := [aI (figs Dx n)]) rfl ?_)
              exact j_iret dX12_mends_90 rfl (jM_of (by have hz : mdR n 60 D = (Dx, t) := (by first | (rw [hv, mdR_z (by omega)]; simp; done) | (rw [hv, mdR_n (by omega)]; simp)); unfold mendsA; rw [if_pos (by omega), if_pos (by omega), hz]) hT.m)
            · refine j_iload_n (pc' := 73) (z := ((lst Dx n 0).1)) dX12_mends_72 rfl rfl ?_
              have hlb := lst_bd (D := Dx) (s := 0) hn.1
              refine j_if_lt (tgt := 81) (pc' := 76) dX12_mends_73 (by decide) rfl (by omega) (fun h73 => ?_) (fun h73 => ?_)
              · refine j_iload_n (pc' := 82) (z := t) dX12_mends_81 rfl rfl ?_
                exact j_iret dX12_mends_82 rfl (jM_of (by first | (exfalso; omega) | (have hz : mdR n 60 D = (Dx, t) := (by first | (rw [hv, mdR_z (by omega)]; simp; done) | (rw [hv, mdR_n (by omega)]; simp)); unfold mendsA; rw [if_pos (by omega), if_neg (by omega), hz]; dsimp only; first | rw [if_pos (by omega)] | rw [if_neg (by omega)])) hT.m)
              · refine j_bipush (pc' := 78) dX12_mends_76 rfl (by decide) ?_
                refine j_goto (pc' := 82) dX12_mends_78 (by decide) ?_
                exact j_iret dX12_mends_82 rfl (jM_of (by first | (exfalso; omega) | (have hz : mdR n 60 D = (Dx, t) := (by first | (rw [hv, mdR_z (by omega)]; simp; done) | (rw [hv, mdR_n (by omega)]; simp)); unfold mendsA; rw [if_pos (by omega), if_neg (by omega), hz]; dsimp only; first | rw [if_pos (by omega)] | rw [if_neg (by omega)])) hT.m)
          · refine j_aload_n (pc' := 44) (z := 53) dX12_mends_43 rfl rfl ?_
            refine j_get (pc' := 47) (v := aR 55) dX12_mends_44 rfl f_Mod_13 (by omega) ((up_n (by omega)).trans hO) rfl ?_
            refine j_iload_n (pc' := 48) (z := ((lst Dx n 0).1)) dX12_mends_47 rfl rfl ?_
            refine j_callS (pc' := 51) (as := [aR 55, aI ((lst Dx n 0).1)]) (rest := []) dX12_mends_48 rfl s_Mod_121 (c_Mod_screw up_s (by omega) hX hXB (by omega)) rfl rfl rfl (fun r9 w9 h9 => ?_)
            obtain ⟨rfl, S1, hR1, rfl⟩ := h9
            refine j_st (st' := [aI (scrD Dx n ((lst Dx n 0).1) 1 (nxt n ((lst Dx n 0).1)))]) rfl ?_
            have hR1 := hR1.exD (show scrD Dx n ((lst Dx n 0).1) = scwD Dx n ((lst Dx n 0).1) from (if_pos (by omega)).symm)
            refine j_w (w' := up w 55 (eI 48 S1)) (by funext j9; simp only [up]; (repeat' split) <;> first | rfl | (exfalso; omega)) ?_
            refine j_istore (pc' := 53) (L' := [some (aR 53), some (aI x), some (aI t), some (aI ((lst Dx n 0).1)), some (aI (scrD Dx n ((lst Dx n 0).1) 1 (nxt n ((lst Dx n 0).1))))]) dX12_mends_51 rfl (by decide) rfl ?_
            refine j_iinc (pc' := 56) (z := t) (L' := [some (aR 53), some (aI x), some (aI (t + 1)), some (aI ((lst Dx n 0).1)), some (aI (scrD Dx n ((lst Dx n 0).1) 1 (nxt n ((lst Dx n 0).1))))]) dX12_mends_53 rfl (by decide) rfl rfl rfl ?_
            refine j_aload_n (pc' := 57) (z := 53) dX12_mends_56 rfl rfl ?_
            refine j_get (pc' := 60) (v := aR 55) dX12_mends_57 rfl f_Mod_13 (by omega) ((up_n (by omega)).trans hO) rfl ?_
            refine j_iconst (pc' := 61) dX12_mends_60 rfl ?_
            refine j_callS (pc' := 64) (as := [aR 55, aI 0]) (rest := []) dX12_mends_61 rfl s_Mod_150 (c_Mod_loudestAt up_s (by omega) hR1.w hXB.scw (by omega)) rfl rfl rfl (jdet (st' := [aI ((lst (scwD Dx n ((lst Dx n 0).1)) n 0).1)]) rfl ?_)
            refine j_istore_n (pc' := 65) (L' := [some (aR 53), some (aI x), some (aI (t + 1)), some (aI ((lst (scwD Dx n ((lst Dx n 0).1)) n 0).1)), some (aI (scrD Dx n ((lst Dx n 0).1) 1 (nxt n ((lst Dx n 0).1))))]) dX12_mends_64 rfl (by decide) rfl ?_
            refine j_goto (pc' := 33) dX12_mends_65 (by decide) ?_
            refine j_forget 4 (L' := [some (aR 53), some (aI x), some (aI (t + 1)), some (aI ((lst (scwD Dx n ((lst Dx n 0).1)) n 0).1)), none]) rfl ?_
            exact ih33 _ (by omega) S1 (scwD Dx n ((lst Dx n 0).1)) (t + 1) (by omega) (by exact hR1) (by exact hXB.scw) (by rw [hv, mdR_y (by omega) (by omega)]; simp only [Prod.mk.injEq, true_and]; omega) rfl
    exact lp33 _ S D 0 (by omega) (by exact hR) (by exact hB) (by simp) rfl
  · refine j_iconst (pc' := 10) dX12_mends_9 rfl ?_
    exact j_iret dX12_mends_10 rfl (jM_of (by unfold mendsA; rw [if_neg (by omega)]) hT)
set_option maxRecDepth 100000 in
set_option maxHeartbeats 4000000 in
theorem c_Mod_leastOf {l : Launch} {w : AW} {so : Int} (hso : 0 ≤ so ∧ so ≤ 2) : Call l m_Mod_leastOf false 68 68 [aI so] w (rt (some (aI (least so))) w) := by
  refine Call.of (L := [some (aI so)]) rfl (Nat.le_of_ble_eq_true rfl) rfl (fun G ad => ?_)
  refine j_iload_n (pc' := 1) (z := so) dX12_leastOf_0 rfl rfl ?_
  refine j_if_ne (tgt := 9) (pc' := 4) dX12_leastOf_1 (by decide) rfl (by omega) (fun h1 => ?_) (fun h1 => ?_)
  · refine j_iload_n (pc' := 10) (z := so) dX12_leastOf_9 rfl rfl ?_
    refine j_iconst (pc' := 11) dX12_leastOf_10 rfl ?_
    refine j_icmp_ne (tgt := 20) (pc' := 14) dX12_leastOf_11 (by decide) rfl (by omega) (by omega) (fun h11 => ?_) (fun h11 => ?_)
    · refine j_ldc (pc' := 22) (n := -2147483648) dX12_leastOf_20 rfl k_Mod_211 (by decide) ?_
      exact j_iret dX12_leastOf_22 rfl (rt_eq (by unfold least; (repeat' split) <;> first | rfl | omega))
    · refine j_sipush (pc' := 17) dX12_leastOf_14 rfl (by decide) ?_
      refine j_goto (pc' := 22) dX12_leastOf_17 (by decide) ?_
      exact j_iret dX12_leastOf_22 rfl (rt_eq (by unfold least; (repeat' split) <;> first | rfl | omega))
  · refine j_bipush (pc' := 6) dX12_leastOf_4 rfl (by decide) ?_
    refine j_goto (pc' := 22) dX12_leastOf_6 (by decide) ?_
    exact j_iret dX12_leastOf_22 rfl (rt_eq (by unfold least; (repeat' split) <;> first | rfl | omega))
set_option maxRecDepth 100000 in
set_option maxHeartbeats 4000000 in
theorem c_Mod_quiet {l : Launch} {w : AW} {D Di : Int → Int → Int} {n mi hi ni mj : Int} {sh E : Int → Int → Int} {d x : Int} (hM : Mod w D n mi hi Di ni mj sh E) (hB : CarOK D n mi) (hI : CarOK Di ni mj) (hhi : hi = 0 ∨ hi = 1) (hsh : ShOK sh E) (hwd : WdOK D) (hd : inI d) (hx : inI x) : Call l m_Mod_quiet false 68 68 [aR 53, aI d, aI x] w (jM w (quietA D n sh E d x) D n mi hi Di ni mj sh E) := by
  have hT := MS.rf hM
  have hM0 := hM
  obtain ⟨⟨pc, ra, re, fm, se, th, hO⟩, ⟨S, hS, hR⟩, ⟨Sm, hSm⟩, ⟨Si, hSi, hRi⟩, ⟨Sw, hSw⟩, ⟨nu, hnu⟩, ⟨ha, hha⟩, ⟨fg, hfg⟩, ke, kk, kf, so, si, el, ⟨hke, hkk, hkf, hso, hsi, hel⟩, hRel⟩ := hM
  obtain ⟨hn, hD, hs0, hs1, hs2, hs3⟩ := id hB
  refine Call.of (L := [some (aR 53), some (aI d), some (aI x), none, none, none, none]) rfl (Nat.le_of_ble_eq_true rfl) rfl (fun G ad => ?_)
  refine j_iload_n (pc' := 1) (z := x) dX12_quiet_0 rfl rfl ?_
  refine j_iconst (pc' := 2) dX12_quiet_1 rfl ?_
  refine j_iconst (pc' := 3) dX12_quiet_2 rfl ?_
  refine j_callS (pc' := 6) (as := [aI x, aI 0, aI 1]) (rest := []) dX12_quiet_3 rfl s_Mod_49 (c_Mod_isIn (by omega) (by omega) (by omega)) rfl rfl rfl (jdet (st' := [aB (0 ≤ x ∧ x ≤ 1)]) rfl ?_)
  refine j_ifb_ne (tgt := 11) (pc' := 9) dX12_quiet_6 (by decide) rfl (fun h6 => ?_) (fun h6 => ?_)
  · refine j_aload_n (pc' := 12) (z := 53) dX12_quiet_11 rfl rfl ?_
    refine j_iload_n (pc' := 13) (z := d) dX12_quiet_12 rfl rfl ?_
    refine j_iconst (pc' := 14) dX12_quiet_13 rfl ?_
    refine j_callV (pc' := 17) (as := [aI d, aI (-1)]) (rest := []) dX12_quiet_14 rfl s_Mod_127 (c_Mod_wrongRowN hT.1 hB hsh (by omega)) (by omega) hO rfl rfl rfl rfl (jdet (st' := [aI (rowR sh d)]) rfl ?_)
    refine j_istore_n (pc' := 18) (L' := [some (aR 53), some (aI d), some (aI x), some (aI (rowR sh d)), none, none, none]) dX12_quiet_17 rfl (by decide) rfl ?_
    have hrb := rowR_bd (sh := sh) (d := d)
    refine j_iload_n (pc' := 19) (z := (rowR sh d)) dX12_quiet_18 rfl rfl ?_
    refine j_if_ne (tgt := 40) (pc' := 22) dX12_quiet_19 (by decide) rfl (by omega) (fun h19 => ?_) (fun h19 => ?_)
    · refine j_iload_n (pc' := 41) (z := (rowR sh d)) dX12_quiet_40 rfl rfl ?_
      refine j_if_eq (tgt := 46) (pc' := 44) dX12_quiet_41 (by decide) rfl (by omega) (fun h41 => ?_) (fun h41 => ?_)
      · exact absurd h41 h19
      · refine j_iload_n (pc' := 45) (z := (rowR sh d)) dX12_quiet_44 rfl rfl ?_
        exact j_iret dX12_quiet_45 rfl (jM_of (by have e9 : stR sh E n d = rowR sh d := (by unfold stR; first | rw [if_neg h19] | rw [if_pos h19, if_pos (by omega)]); unfold quietA; rw [if_pos (by omega), if_neg (by omega), e9]) hT)
    · obtain ⟨hd7, hct⟩ := rowR_0 h19
      obtain ⟨q1, q2, q3, q4, q5, q6⟩ := id (hsh d (by omega))
      have hlb : -2147483648 ≤ least (sh 3 d) ∧ least (sh 3 d) ≤ -128 := by unfold least; (repeat' split) <;> omega
      refine j_aload_n (pc' := 23) (z := 53) dX12_quiet_22 rfl rfl ?_
      refine j_get (pc' := 26) (v := aR 65) dX12_quiet_23 rfl f_Mod_43 (by omega) hO rfl ?_
      refine j_iload_n (pc' := 27) (z := d) dX12_quiet_26 rfl rfl ?_
      refine j_iald (pc' := 28) dX12_quiet_27 rfl (by omega) hsi (by omega) (by decide) ?_
      refine j_top (b := sh 4 d) ((hRel d (by omega)).2.2 (by omega)).2.1 ?_
      refine j_aload_n (pc' := 29) (z := 53) dX12_quiet_28 rfl rfl ?_
      refine j_get (pc' := 32) (v := aR 54) dX12_quiet_29 rfl f_Mod_9 (by omega) hO rfl ?_
      refine j_iconst (pc' := 33) dX12_quiet_32 rfl ?_
      refine j_iald (pc' := 34) dX12_quiet_33 rfl (by omega) hS (by omega) (by decide) ?_
      refine j_top (b := n) hR.pn ?_
      refine j_icmp_le (tgt := 40) (pc' := 37) dX12_quiet_34 (by decide) rfl (by omega) (by omega) (fun h34 => ?_) (fun h34 => ?_)
      · refine j_iload_n (pc' := 41) (z := (rowR sh d)) dX12_quiet_40 rfl rfl ?_
        refine j_if_eq (tgt := 46) (pc' := 44) dX12_quiet_41 (by decide) rfl (by omega) (fun h41 => ?_) (fun h41 => ?_)
        · refine j_aload_n (pc' := 47) (z := 53) dX12_quiet_46 rfl rfl ?_
          refine j_get (pc' := 50) (v := aR 54) dX12_quiet_47 rfl f_Mod_9 (by omega) hO rfl ?_
          refine j_aload_n (pc' := 51) (z := 53) dX12_quiet_50 rfl rfl ?_
          refine j_get (pc' := 54) (v := aR 55) dX12_quiet_51 rfl f_Mod_13 (by omega) hO rfl ?_
          refine j_callS (pc' := 57) (as := [aR 54, aR 55]) (rest := []) dX12_quiet_54 rfl s_Mod_134 (c_Mod_lays hS hSm (by omega) (by omega) (by omega)) rfl rfl rfl (jdet (st' := []) rfl ?_)
          refine j_iconst (pc' := 58) dX12_quiet_57 rfl ?_
          refine j_istore (pc' := 60) (L' := [some (aR 53), some (aI d), some (aI x), some (aI (rowR sh d)), some (aI 0), none, none]) dX12_quiet_58 rfl (by decide) rfl ?_
          have lp60 : ∀ (k9 : Nat) (X : Int → Int) (i : Int), (0 ≤ i ∧ i ≤ sh 4 d) → (Rw X (tsD D i (E d) (sh 3 d)) n mi) → (allI (stP (E d) (sh 3 d)) i = true) → ((sh 4 d - i).toNat) = k9 → J l m_Mod_quiet ad G [] false (jZ ad G false 68 m_Mod_quiet.2.2.2.2.cells m_Mod_quiet.2.2.2.2.slots (jM w (quietA D n sh E d x) D n mi hi Di ni mj sh E)) 68 0 0 60 [some (aR 53), some (aI d), some (aI x), some (aI (rowR sh d)), some (aI i), none, none] [] (up w 55 (eI 48 X)) := by
            intro k9
            induction k9 using Nat.strongRecOn with
            | _ k9 ih60 =>
              intro X i hi9 hX ha hk60
              refine j_iload (pc' := 62) (z := i) dX12_quiet_60 rfl rfl ?_
              refine j_aload_n (pc' := 63) (z := 53) dX12_quiet_62 rfl rfl ?_
              refine j_get (pc' := 66) (v := aR 65) dX12_quiet_63 rfl f_Mod_43 (by omega) ((up_n (by omega)).trans hO) rfl ?_
              refine j_iload_n (pc' := 67) (z := d) dX12_quiet_66 rfl rfl ?_
              refine j_iald (pc' := 68) dX12_quiet_67 rfl (by omega) ((up_n (by omega)).trans hsi) (by omega) (by decide) ?_
              refine j_top (b := sh 4 d) ((hRel d (by omega)).2.2 (by omega)).2.1 ?_
              refine j_icmp_ge (tgt := 134) (pc' := 71) dX12_quiet_68 (by decide) rfl (by omega) (by omega) (fun h68 => ?_) (fun h68 => ?_)
              · have hst0 : stR sh E n d = 0 := by unfold stR; rw [if_pos h19, if_neg (by omega), if_pos (by rw [show sh 4 d = i by omega]; exact ha)]
                have hXB : CarOK (tsD D (sh 4 d) (E d) (sh 3 d)) n mi := hB.ts (stR_0 hst0).2
                have hX : Rw X (tsD D (sh 4 d) (E d) (sh 3 d)) n mi := by rw [show sh 4 d = i by omega]; exact hX
                obtain ⟨Dq, hDq⟩ : ∃ Dq, Dq = tsD D (sh 4 d) (E d) (sh 3 d) := ⟨_, rfl⟩
                rw [← hDq] at hX hXB
                refine j_iconst (pc' := 135) dX12_quiet_134 rfl ?_
                refine j_istore (pc' := 137) (L' := [some (aR 53), some (aI d), some (aI x), some (aI (rowR sh d)), some (aI 0), none, none]) dX12_quiet_135 rfl (by decide) rfl ?_
                refine j_bipush (pc' := 139) dX12_quiet_137 rfl (by decide) ?_
                refine j_istore (pc' := 141) (L' := [some (aR 53), some (aI d), some (aI x), some (aI (rowR sh d)), some (aI 0), some (aI (-4)), none]) dX12_quiet_139 rfl (by decide) rfl ?_
                refine j_iconst (pc' := 142) dX12_quiet_141 rfl ?_
                refine j_istore (pc' := 144) (L' := [some (aR 53), some (aI d), some (aI x), some (aI (rowR sh d)), some (aI 0), some (aI (-4)), some (aI 0)]) dX12_quiet_142 rfl (by decide) rfl ?_
                have lp144 : ∀ (k9 : Nat) (v : Int) (f : Int) (p : Int), (0 ≤ p ∧ p ≤ 100) → ((v, f) = quF Dq n p) → ((0 ≤ v ∧ v ≤ p) ∧ -4 ≤ f ∧ f ≤ 100 ∧ (v = 0 ↔ f = -4)) → ((100 - p).toNat) = k9 → J l m_Mod_quiet ad G [] false (jZ ad G false 68 m_Mod_quiet.2.2.2.2.cells m_Mod_quiet.2.2.2.2.slots (jM w (quietA D n sh E d x) D n mi hi Di ni mj sh E)) 68 0 0 144 [some (aR 53), some (aI d), some (aI x), some (aI (rowR sh d)), some (aI v), some (aI f), some (aI p)] [] (up w 55 (eI 48 X)) := by
                  intro k9
                  induction k9 using Nat.strongRecOn with
                  | _ k9 ih144 =>
                    intro v f p hp9 hv hvb hk144
                    refine j_iload (pc' := 146) (z := p) dX12_quiet_144 rfl rfl ?_
                    refine j_bipush (pc' := 148) dX12_quiet_146 rfl (by decide) ?_
                    refine j_icmp_ge (tgt := 190) (pc' := 151) dX12_quiet_148 (by decide) rfl (by omega) (by omega) (fun h148 => ?_) (fun h148 => ?_)
                    · refine j_iload_n (pc' := 191) (z := x) dX12_quiet_190 rfl rfl ?_
                      refine j_if_ne (tgt := 199) (pc' := 194) dX12_quiet_191 (by decide) rfl (by omega) (fun h191 => ?_) (fun h191 => ?_)
                      · refine j_iload (pc' := 201) (z := f) dX12_quiet_199 rfl rfl ?_
                        exact j_iret dX12_quiet_201 rfl (jM_of (by have hz : quF Dq n 100 = (v, f) := (by rw [hv, show p = 100 by omega]); unfold quietA; rw [if_pos (by omega), if_pos hst0, ← hDq, hz]; dsimp only; (repeat' split) <;> first | rfl | omega) hT.m)
                      · refine j_iload (pc' := 196) (z := v) dX12_quiet_194 rfl rfl ?_
                        refine j_goto (pc' := 201) dX12_quiet_196 (by decide) ?_
                        exact j_iret dX12_quiet_201 rfl (jM_of (by have hz : quF Dq n 100 = (v, f) := (by rw [hv, show p = 100 by omega]); unfold quietA; rw [if_pos (by omega), if_pos hst0, ← hDq, hz]; dsimp only; (repeat' split) <;> first | rfl | omega) hT.m)
                    · refine j_aload_n (pc' := 152) (z := 53) dX12_quiet_151 rfl rfl ?_
                      refine j_get (pc' := 155) (v := aR 55) dX12_quiet_152 rfl f_Mod_13 (by omega) ((up_n (by omega)).trans hO) rfl ?_
                      refine j_iconst (pc' := 156) dX12_quiet_155 rfl ?_
                      refine j_iload (pc' := 158) (z := p) dX12_quiet_156 rfl rfl ?_
                      refine j_callS (pc' := 161) (as := [aR 55, aI 0, aI p]) (rest := []) dX12_quiet_158 rfl s_Mod_74 (c_Mod_heardAt up_s (by omega) hX.w hXB (by omega) (by omega)) rfl rfl rfl (jdet (st' := [aI (hrd Dq n 0 p)]) rfl ?_)
                      have hhb := hrd_bd (seat := 0) (pace := p) hXB
                      refine j_if_le (tgt := 167) (pc' := 164) dX12_quiet_161 (by decide) rfl (by omega) (fun h161 => ?_) (fun h161 => ?_)
                      · refine j_iload (pc' := 169) (z := v) dX12_quiet_167 rfl rfl ?_
                        refine j_if_ne (tgt := 177) (pc' := 172) dX12_quiet_169 (by decide) rfl (by omega) (fun h169 => ?_) (fun h169 => ?_)
                        · refine j_iload (pc' := 179) (z := f) dX12_quiet_177 rfl rfl ?_
                          refine j_istore (pc' := 181) (L' := [some (aR 53), some (aI d), some (aI x), some (aI (rowR sh d)), some (aI v), some (aI f), some (aI p)]) dX12_quiet_179 rfl (by decide) rfl ?_
                          refine j_iinc (pc' := 184) (z := v) (L' := [some (aR 53), some (aI d), some (aI x), some (aI (rowR sh d)), some (aI (v + 1)), some (aI f), some (aI p)]) dX12_quiet_181 rfl (by decide) rfl rfl rfl ?_
                          refine j_iinc (pc' := 187) (z := p) (L' := [some (aR 53), some (aI d), some (aI x), some (aI (rowR sh d)), some (aI (v + 1)), some (aI f), some (aI (p + 1))]) dX12_quiet_184 rfl (by decide) rfl rfl rfl ?_
                          refine j_goto (pc' := 144) dX12_quiet_187 (by decide) ?_
                          exact ih144 _ (by omega) (v + 1) f (p + 1) (by omega) (by unfold quF at hv ⊢; rw [foldI_s (by omega), ← hv]; unfold quH; first | (rw [if_pos (by omega)]; dsimp only; first | rw [if_pos (by omega)] | rw [if_neg (by omega)]) | rw [if_neg (by omega)]) (by omega) rfl
                        · refine j_iload (pc' := 174) (z := p) dX12_quiet_172 rfl rfl ?_
                          refine j_goto (pc' := 179) dX12_quiet_174 (by decide) ?_
                          refine j_istore (pc' := 181) (L' := [some (aR 53), some (aI d), some (aI x), some (aI (rowR sh d)), some (aI v), some (aI p), some (aI p)]) dX12_quiet_179 rfl (by decide) rfl ?_
                          refine j_iinc (pc' := 184) (z := v) (L' := [some (aR 53), some (aI d), some (aI x), some (aI (rowR sh d)), some (aI (v + 1)), some (aI p), some (aI p)]) dX12_quiet_181 rfl (by decide) rfl rfl rfl ?_
                          refine j_iinc (pc' := 187) (z := p) (L' := [some (aR 53), some (aI d), some (aI x), some (aI (rowR sh d)), some (aI (v + 1)), some (aI p), some (aI (p + 1))]) dX12_quiet_184 rfl (by decide) rfl rfl rfl ?_
                          refine j_goto (pc' := 144) dX12_quiet_187 (by decide) ?_
                          exact ih144 _ (by omega) (v + 1) p (p + 1) (by omega) (by unfold quF at hv ⊢; rw [foldI_s (by omega), ← hv]; unfold quH; first | (rw [if_pos (by omega)]; dsimp only; first | rw [if_pos (by omega)] | rw [if_neg (by omega)]) | rw [if_neg (by omega)]) (by omega) rfl
                      · refine j_goto (pc' := 184) dX12_quiet_164 (by decide) ?_
                        refine j_iinc (pc' := 187) (z := p) (L' := [some (aR 53), some (aI d), some (aI x), some (aI (rowR sh d)), some (aI v), some (aI f), some (aI (p + 1))]) dX12_quiet_184 rfl (by decide) rfl rfl rfl ?_
                        refine j_goto (pc' := 144) dX12_quiet_187 (by decide) ?_
                        exact ih144 _ (by omega) v f (p + 1) (by omega) (by unfold quF at hv ⊢; rw [foldI_s (by omega), ← hv]; unfold quH; first | (rw [if_pos (by omega)]; dsimp only; first | rw [if_pos (by omega)] | rw [if_neg (by omega)]) | rw [if_neg (by omega)]) (by omega) rfl
                exact lp144 _ 0 (-4) 0 (by omega) (by rfl) (by omega) rfl
              · refine j_aload_n (pc' := 72) (z := 53) dX12_quiet_71 rfl rfl ?_
                refine j_get (pc' := 75) (v := aR 66) dX12_quiet_72 rfl f_Mod_46 (by omega) ((up_n (by omega)).trans hO) rfl ?_
                refine j_bipush (pc' := 77) dX12_quiet_75 rfl (by decide) ?_
                refine j_iload_n (pc' := 78) (z := d) dX12_quiet_77 rfl rfl ?_
                refine j_imul (pc' := 79) dX12_quiet_78 rfl ?_
                refine j_iload (pc' := 81) (z := i) dX12_quiet_79 rfl rfl ?_
                refine j_iadd (pc' := 82) dX12_quiet_81 rfl ?_
                refine j_iald (pc' := 83) dX12_quiet_82 rfl (by omega) ((up_n (by omega)).trans hel) (by omega) (by decide) ?_
                refine j_top (b := E d i) (((hRel d (by omega)).2.2 (by omega)).2.2 i (by omega)) ?_
                refine j_istore (pc' := 85) (L' := [some (aR 53), some (aI d), some (aI x), some (aI (rowR sh d)), some (aI i), some (aI (E d i)), none]) dX12_quiet_83 rfl (by decide) rfl ?_
                have hEi := q6 i (by omega) (by omega)
                refine j_iload (pc' := 87) (z := (E d i)) dX12_quiet_85 rfl rfl ?_
                refine j_aload_n (pc' := 88) (z := 53) dX12_quiet_87 rfl rfl ?_
                refine j_get (pc' := 91) (v := aR 64) dX12_quiet_88 rfl f_Mod_40 (by omega) ((up_n (by omega)).trans hO) rfl ?_
                refine j_iload_n (pc' := 92) (z := d) dX12_quiet_91 rfl rfl ?_
                refine j_iald (pc' := 93) dX12_quiet_92 rfl (by omega) ((up_n (by omega)).trans hso) (by omega) (by decide) ?_
                refine j_top (b := sh 3 d) ((hRel d (by omega)).2.2 (by omega)).1 ?_
                refine j_callS (pc' := 96) (as := [aI (sh 3 d)]) (rest := [aI (E d i)]) dX12_quiet_93 rfl s_Mod_212 (c_Mod_leastOf (by omega)) rfl rfl rfl (jdet (st' := [aI (least (sh 3 d)), aI (E d i)]) rfl ?_)
                refine j_icmp_ne (tgt := 102) (pc' := 99) dX12_quiet_96 (by decide) rfl (by omega) (by omega) (fun h96 => ?_) (fun h96 => ?_)
                · refine j_iload (pc' := 104) (z := (E d i)) dX12_quiet_102 rfl rfl ?_
                  refine j_iconst (pc' := 105) dX12_quiet_104 rfl ?_
                  refine j_iconst (pc' := 106) dX12_quiet_105 rfl ?_
                  refine j_callS (pc' := 109) (as := [aI (E d i), aI 0, aI 3]) (rest := []) dX12_quiet_106 rfl s_Mod_49 (c_Mod_isIn (by omega) (by omega) (by omega)) rfl rfl rfl (jdet (st' := [aB (0 ≤ E d i ∧ E d i ≤ 3)]) rfl ?_)
                  refine j_ifb_ne (tgt := 115) (pc' := 112) dX12_quiet_109 (by decide) rfl (fun h109 => ?_) (fun h109 => ?_)
                  · refine j_aload_n (pc' := 116) (z := 53) dX12_quiet_115 rfl rfl ?_
                    refine j_get (pc' := 119) (v := aR 55) dX12_quiet_116 rfl f_Mod_13 (by omega) ((up_n (by omega)).trans hO) rfl ?_
                    refine j_iload (pc' := 121) (z := i) dX12_quiet_119 rfl rfl ?_
                    refine j_iconst (pc' := 122) dX12_quiet_121 rfl ?_
                    refine j_callS (pc' := 125) (as := [aI i, aI 4]) (rest := [aR 55]) dX12_quiet_122 rfl s_Mod_53 c_Mod_at rfl rfl rfl (jdet (st' := [aI (6 + 6 * i + 4), aR 55]) rfl ?_)
                    refine j_iload (pc' := 127) (z := (E d i)) dX12_quiet_125 rfl rfl ?_
                    refine j_iast (pc' := 128) dX12_quiet_127 rfl (by omega) up_s (by omega) (by decide) ?_
                    refine j_w (w' := up w 55 (eI 48 (upi X (6 + 6 * i + 4) (E d i)))) (by funext j9; simp only [up]; (repeat' split) <;> first | rfl | (exfalso; omega)) ?_
                    refine j_iinc (pc' := 131) (z := i) (L' := [some (aR 53), some (aI d), some (aI x), some (aI (rowR sh d)), some (aI (i + 1)), some (aI (E d i)), none]) dX12_quiet_128 rfl (by decide) rfl rfl rfl ?_
                    refine j_goto (pc' := 60) dX12_quiet_131 (by decide) ?_
                    refine j_forget 5 (L' := [some (aR 53), some (aI d), some (aI x), some (aI (rowR sh d)), some (aI (i + 1)), none, none]) rfl ?_
                    exact ih60 _ (by omega) (upi X (6 + 6 * i + 4) (E d i)) (i + 1) (by omega) (by exact (hX.sta (D' := tsD D (i + 1) (E d) (sh 3 d)) (by omega) (tsD_s (by omega) (by omega)).symm (fun j j4 => by rw [tsD_o j4, tsD_o j4]))) (by rw [allI_s (by omega), ha, Bool.true_and]; unfold stP; exact decide_eq_true (by omega)) rfl
                  · refine j_bipush (pc' := 114) dX12_quiet_112 rfl (by decide) ?_
                    exact j_iret dX12_quiet_114 rfl (jM_of (by have e9 : stR sh E n d = -13 := (by unfold stR; rw [if_pos h19, if_neg (by omega), if_neg (allI_no (k := i) (by omega) (by unfold stP; rw [decide_eq_true_iff]; omega))]); unfold quietA; rw [if_pos (by omega), if_neg (by omega), e9]) hT.m)
                · refine j_goto (pc' := 128) dX12_quiet_99 (by decide) ?_
                  refine j_iinc (pc' := 131) (z := i) (L' := [some (aR 53), some (aI d), some (aI x), some (aI (rowR sh d)), some (aI (i + 1)), some (aI (E d i)), none]) dX12_quiet_128 rfl (by decide) rfl rfl rfl ?_
                  refine j_goto (pc' := 60) dX12_quiet_131 (by decide) ?_
                  refine j_forget 5 (L' := [some (aR 53), some (aI d), some (aI x), some (aI (rowR sh d)), some (aI (i + 1)), none, none]) rfl ?_
                  exact ih60 _ (by omega) X (i + 1) (by omega) (by exact hX.exD (by funext j p; by_cases j4 : j = 4; (subst j4; rw [tsD_k (by omega)]); (rw [tsD_o j4, tsD_o j4]))) (by rw [allI_s (by omega), ha, Bool.true_and]; unfold stP; exact decide_eq_true (by omega)) rfl
          exact lp60 _ S 0 (by omega) (by rw [tsD_0]; exact hR.w) (by rfl) rfl
        · exact absurd h19 h41
      · refine j_bipush (pc' := 39) dX12_quiet_37 rfl (by decide) ?_
        refine j_istore_n (pc' := 40) (L' := [some (aR 53), some (aI d), some (aI x), some (aI (-13)), none, none, none]) dX12_quiet_39 rfl (by decide) rfl ?_
        refine j_iload_n (pc' := 41) (z := (-13)) dX12_quiet_40 rfl rfl ?_
        refine j_if_eq (tgt := 46) (pc' := 44) dX12_quiet_41 (by decide) rfl (by omega) (fun h41 => ?_) (fun h41 => ?_)
        · exact absurd h41 (by decide)
        · refine j_iload_n (pc' := 45) (z := (-13)) dX12_quiet_44 rfl rfl ?_
          exact j_iret dX12_quiet_45 rfl (jM_of (by have e9 : stR sh E n d = -13 := (by unfold stR; first | rw [if_neg h19] | rw [if_pos h19, if_pos (by omega)]); unfold quietA; rw [if_pos (by omega), if_neg (by omega), e9]) hT)
  · refine j_iconst (pc' := 10) dX12_quiet_9 rfl ?_
    exact j_iret dX12_quiet_10 rfl (jM_of (by unfold quietA; rw [if_neg (by omega)]) hT)
set_option maxRecDepth 100000 in
set_option maxHeartbeats 4000000 in
theorem c_Mod_wrongBy {l : Launch} {w : AW} {D Di : Int → Int → Int} {n mi hi ni mj : Int} {sh E : Int → Int → Int} {d l9 : Int} (hM : Mod w D n mi hi Di ni mj sh E) (hB : CarOK D n mi) (hsh : ShOK sh E) (hd7 : 0 ≤ d ∧ d ≤ 7) (hct : sh 0 d = 2) (hl9 : 0 ≤ l9 ∧ l9 ≤ 5) : Call l m_Mod_wrongBy false 68 68 [aR 53, aI d, aI l9] w (fun r w9 => r = some (aI (wbV D n (E d) (sh 3 d) (sh 4 d) l9)) ∧ ∃ Q9, w9 = up w 55 (eI 48 Q9)) := by
  have hT := MS.rf hM
  have hM0 := hM
  obtain ⟨⟨pc, ra, re, fm, se, th, hO⟩, ⟨S, hS, hR⟩, ⟨Sm, hSm⟩, ⟨Si, hSi, hRi⟩, ⟨Sw, hSw⟩, ⟨nu, hnu⟩, ⟨ha, hha⟩, ⟨fg, hfg⟩, ke, kk, kf, so, si, el, ⟨hke, hkk, hkf, hso, hsi, hel⟩, hRel⟩ := hM
  obtain ⟨hn, hD, hs0, hs1, hs2, hs3⟩ := id hB
  obtain ⟨q1, q2, q3, q4, q5, q6⟩ := id (hsh d (by omega))
  have hlb : -2147483648 ≤ least (sh 3 d) ∧ least (sh 3 d) ≤ -128 := by unfold least; (repeat' split) <;> omega
  have hXB : CarOK (upD D 6 2 l9) n mi := hB.ch (by omega) (by have := mos2; omega)
  have hX : Rw (upi S 4 l9) (upD D 6 2 l9) n mi := (hR.w.set (k := 2) (x := l9) (by omega)).ex rfl
  obtain ⟨w1, w2, w3⟩ := wb_at (D := D) (n := n) (so := sh 3 d) (sz := sh 4 d) (l := l9) (F := E d) (by omega)
  refine Call.of (L := [some (aR 53), some (aI d), some (aI l9), none, none]) rfl (Nat.le_of_ble_eq_true rfl) rfl (fun G ad => ?_)
  refine j_aload_n (pc' := 1) (z := 53) dX12_wrongBy_0 rfl rfl ?_
  refine j_get (pc' := 4) (v := aR 54) dX12_wrongBy_1 rfl f_Mod_9 (by omega) hO rfl ?_
  refine j_aload_n (pc' := 5) (z := 53) dX12_wrongBy_4 rfl rfl ?_
  refine j_get (pc' := 8) (v := aR 55) dX12_wrongBy_5 rfl f_Mod_13 (by omega) hO rfl ?_
  refine j_callS (pc' := 11) (as := [aR 54, aR 55]) (rest := []) dX12_wrongBy_8 rfl s_Mod_134 (c_Mod_lays hS hSm (by omega) (by omega) (by omega)) rfl rfl rfl (jdet (st' := []) rfl ?_)
  refine j_aload_n (pc' := 12) (z := 53) dX12_wrongBy_11 rfl rfl ?_
  refine j_get (pc' := 15) (v := aR 55) dX12_wrongBy_12 rfl f_Mod_13 (by omega) ((up_n (by omega)).trans hO) rfl ?_
  refine j_iconst (pc' := 16) dX12_wrongBy_15 rfl ?_
  refine j_iload_n (pc' := 17) (z := l9) dX12_wrongBy_16 rfl rfl ?_
  refine j_iast (pc' := 18) dX12_wrongBy_17 rfl (by omega) up_s (by omega) (by decide) ?_
  refine j_w (w' := up w 55 (eI 48 (upi S 4 l9))) (by funext j9; simp only [up]; (repeat' split) <;> first | rfl | (exfalso; omega)) ?_
  refine j_iconst (pc' := 19) dX12_wrongBy_18 rfl ?_
  refine j_istore_n (pc' := 20) (L' := [some (aR 53), some (aI d), some (aI l9), some (aI 0), none]) dX12_wrongBy_19 rfl (by decide) rfl ?_
  have lp20 : ∀ (k9 : Nat) (i : Int), (0 ≤ i ∧ i ≤ sh 4 d) → (∀ j, 0 ≤ j → j < i → fokP D n (E d) (sh 3 d) l9 j = true) → ((sh 4 d - i).toNat) = k9 → J l m_Mod_wrongBy ad G [] false (jZ ad G false 68 m_Mod_wrongBy.2.2.2.2.cells m_Mod_wrongBy.2.2.2.2.slots (fun r w9 => r = some (aI (wbV D n (E d) (sh 3 d) (sh 4 d) l9)) ∧ ∃ Q9, w9 = up w 55 (eI 48 Q9))) 68 0 0 20 [some (aR 53), some (aI d), some (aI l9), some (aI i), none] [] (up w 55 (eI 48 (upi S 4 l9))) := by
    intro k9
    induction k9 using Nat.strongRecOn with
    | _ k9 ih20 =>
      intro i hi9 ha hk20
      refine j_iload_n (pc' := 21) (z := i) dX12_wrongBy_20 rfl rfl ?_
      refine j_aload_n (pc' := 22) (z := 53) dX12_wrongBy_21 rfl rfl ?_
      refine j_get (pc' := 25) (v := aR 65) dX12_wrongBy_22 rfl f_Mod_43 (by omega) ((up_n (by omega)).trans hO) rfl ?_
      refine j_iload_n (pc' := 26) (z := d) dX12_wrongBy_25 rfl rfl ?_
      refine j_iald (pc' := 27) dX12_wrongBy_26 rfl (by omega) ((up_n (by omega)).trans hsi) (by omega) (by decide) ?_
      refine j_top (b := sh 4 d) ((hRel d (by omega)).2.2 (by omega)).2.1 ?_
      refine j_icmp_ge (tgt := 79) (pc' := 30) dX12_wrongBy_27 (by decide) rfl (by omega) (by omega) (fun h27 => ?_) (fun h27 => ?_)
      · refine j_aload_n (pc' := 80) (z := 53) dX12_wrongBy_79 rfl rfl ?_
        refine j_get (pc' := 83) (v := aR 65) dX12_wrongBy_80 rfl f_Mod_43 (by omega) ((up_n (by omega)).trans hO) rfl ?_
        refine j_iload_n (pc' := 84) (z := d) dX12_wrongBy_83 rfl rfl ?_
        refine j_iald (pc' := 85) dX12_wrongBy_84 rfl (by omega) ((up_n (by omega)).trans hsi) (by omega) (by decide) ?_
        refine j_top (b := sh 4 d) ((hRel d (by omega)).2.2 (by omega)).2.1 ?_
        exact j_iret dX12_wrongBy_85 rfl (id (by have e9 : wbV D n (E d) (sh 3 d) (sh 4 d) l9 = sh 4 d := (by rcases Int.lt_or_le (wbV D n (E d) (sh 3 d) (sh 4 d) l9) (sh 4 d) with q | q; (exact absurd (ha _ w1.1 (by omega)) (w3 q)); (omega)); exact ⟨by rw [e9], _, rfl⟩))
      · refine j_aload_n (pc' := 31) (z := 53) dX12_wrongBy_30 rfl rfl ?_
        refine j_get (pc' := 34) (v := aR 66) dX12_wrongBy_31 rfl f_Mod_46 (by omega) ((up_n (by omega)).trans hO) rfl ?_
        refine j_bipush (pc' := 36) dX12_wrongBy_34 rfl (by decide) ?_
        refine j_iload_n (pc' := 37) (z := d) dX12_wrongBy_36 rfl rfl ?_
        refine j_imul (pc' := 38) dX12_wrongBy_37 rfl ?_
        refine j_iload_n (pc' := 39) (z := i) dX12_wrongBy_38 rfl rfl ?_
        refine j_iadd (pc' := 40) dX12_wrongBy_39 rfl ?_
        refine j_iald (pc' := 41) dX12_wrongBy_40 rfl (by omega) ((up_n (by omega)).trans hel) (by omega) (by decide) ?_
        refine j_top (b := E d i) (((hRel d (by omega)).2.2 (by omega)).2.2 i (by omega)) ?_
        refine j_istore (pc' := 43) (L' := [some (aR 53), some (aI d), some (aI l9), some (aI i), some (aI (E d i))]) dX12_wrongBy_41 rfl (by decide) rfl ?_
        have hEi := q6 i (by omega) (by omega)
        have hfk : fokP D n (E d) (sh 3 d) l9 i = true ↔ (E d i = least (sh 3 d) ∨ E d i = hrd (upD D 6 2 l9) n 0 i) := decide_eq_true_iff
        refine j_iload (pc' := 45) (z := (E d i)) dX12_wrongBy_43 rfl rfl ?_
        refine j_aload_n (pc' := 46) (z := 53) dX12_wrongBy_45 rfl rfl ?_
        refine j_get (pc' := 49) (v := aR 64) dX12_wrongBy_46 rfl f_Mod_40 (by omega) ((up_n (by omega)).trans hO) rfl ?_
        refine j_iload_n (pc' := 50) (z := d) dX12_wrongBy_49 rfl rfl ?_
        refine j_iald (pc' := 51) dX12_wrongBy_50 rfl (by omega) ((up_n (by omega)).trans hso) (by omega) (by decide) ?_
        refine j_top (b := sh 3 d) ((hRel d (by omega)).2.2 (by omega)).1 ?_
        refine j_callS (pc' := 54) (as := [aI (sh 3 d)]) (rest := [aI (E d i)]) dX12_wrongBy_51 rfl s_Mod_212 (c_Mod_leastOf (by omega)) rfl rfl rfl (jdet (st' := [aI (least (sh 3 d)), aI (E d i)]) rfl ?_)
        refine j_icmp_eq (tgt := 73) (pc' := 57) dX12_wrongBy_54 (by decide) rfl (by omega) (by omega) (fun h54 => ?_) (fun h54 => ?_)
        · refine j_iinc (pc' := 76) (z := i) (L' := [some (aR 53), some (aI d), some (aI l9), some (aI (i + 1)), some (aI (E d i))]) dX12_wrongBy_73 rfl (by decide) rfl rfl rfl ?_
          refine j_goto (pc' := 20) dX12_wrongBy_76 (by decide) ?_
          refine j_forget 4 (L' := [some (aR 53), some (aI d), some (aI l9), some (aI (i + 1)), none]) rfl ?_
          exact ih20 _ (by omega) (i + 1) (by omega) (by intro j j1 j2; by_cases ji : j = i; (subst ji; rw [hfk]; omega); (exact ha j j1 (by omega))) rfl
        · refine j_iload (pc' := 59) (z := (E d i)) dX12_wrongBy_57 rfl rfl ?_
          refine j_aload_n (pc' := 60) (z := 53) dX12_wrongBy_59 rfl rfl ?_
          refine j_get (pc' := 63) (v := aR 55) dX12_wrongBy_60 rfl f_Mod_13 (by omega) ((up_n (by omega)).trans hO) rfl ?_
          refine j_iconst (pc' := 64) dX12_wrongBy_63 rfl ?_
          refine j_iload_n (pc' := 65) (z := i) dX12_wrongBy_64 rfl rfl ?_
          refine j_callS (pc' := 68) (as := [aR 55, aI 0, aI i]) (rest := [aI (E d i)]) dX12_wrongBy_65 rfl s_Mod_74 (c_Mod_heardAt up_s (by omega) hX.w hXB (by omega) (by omega)) rfl rfl rfl (jdet (st' := [aI (hrd (upD D 6 2 l9) n 0 i), aI (E d i)]) rfl ?_)
          have hhb := hrd_bd (seat := 0) (pace := i) hXB
          refine j_icmp_eq (tgt := 73) (pc' := 71) dX12_wrongBy_68 (by decide) rfl (by omega) (by omega) (fun h68 => ?_) (fun h68 => ?_)
          · refine j_iinc (pc' := 76) (z := i) (L' := [some (aR 53), some (aI d), some (aI l9), some (aI (i + 1)), some (aI (E d i))]) dX12_wrongBy_73 rfl (by decide) rfl rfl rfl ?_
            refine j_goto (pc' := 20) dX12_wrongBy_76 (by decide) ?_
            refine j_forget 4 (L' := [some (aR 53), some (aI d), some (aI l9), some (aI (i + 1)), none]) rfl ?_
            exact ih20 _ (by omega) (i + 1) (by omega) (by intro j j1 j2; by_cases ji : j = i; (subst ji; rw [hfk]; omega); (exact ha j j1 (by omega))) rfl
          · refine j_iload_n (pc' := 72) (z := i) dX12_wrongBy_71 rfl rfl ?_
            exact j_iret dX12_wrongBy_72 rfl (id (by have e9 : wbV D n (E d) (sh 3 d) (sh 4 d) l9 = i := (by rcases Int.lt_or_le (wbV D n (E d) (sh 3 d) (sh 4 d) l9) i with q | q; (exact absurd (ha _ w1.1 q) (w3 (by omega))); (rcases Int.lt_or_le i (wbV D n (E d) (sh 3 d) (sh 4 d) l9) with z | z; (have := hfk.mp (w2 i hi9.1 z); omega); (omega))); exact ⟨by rw [e9], _, rfl⟩))
  exact lp20 _ 0 (by omega) (by intro j j1 j2; omega) rfl
set_option maxRecDepth 100000 in
set_option maxHeartbeats 4000000 in
theorem c_Mod_forged {l : Launch} {w : AW} {D Di : Int → Int → Int} {n mi hi ni mj : Int} {sh E : Int → Int → Int} {d : Int} (hM : Mod w D n mi hi Di ni mj sh E) (hB : CarOK D n mi) (hI : CarOK Di ni mj) (hhi : hi = 0 ∨ hi = 1) (hsh : ShOK sh E) (hwd : WdOK D) (hd : inI d) : Call l m_Mod_forged false 68 68 [aR 53, aI d] w (jM w (forgedA D n sh E d) D n mi hi Di ni mj sh E) := by
  have hT := MS.rf hM
  have hM0 := hM
  obtain ⟨⟨pc, ra, re, fm, se, th, hO⟩, ⟨S, hS, hR⟩, ⟨Sm, hSm⟩, ⟨Si, hSi, hRi⟩, ⟨Sw, hSw⟩, ⟨nu, hnu⟩, ⟨ha, hha⟩, ⟨fg, hfg⟩, ke, kk, kf, so, si, el, ⟨hke, hkk, hkf, hso, hsi, hel⟩, hRel⟩ := hM
  obtain ⟨hn, hD, hs0, hs1, hs2, hs3⟩ := id hB
  refine Call.of (L := [some (aR 53), some (aI d), none, none, none]) rfl (Nat.le_of_ble_eq_true rfl) rfl (fun G ad => ?_)
  refine j_aload_n (pc' := 1) (z := 53) dX12_forged_0 rfl rfl ?_
  refine j_iload_n (pc' := 2) (z := d) dX12_forged_1 rfl rfl ?_
  refine j_iconst (pc' := 3) dX12_forged_2 rfl ?_
  refine j_callV (pc' := 6) (as := [aI d, aI (-1)]) (rest := []) dX12_forged_3 rfl s_Mod_127 (c_Mod_wrongRowN hT.1 hB hsh (by omega)) (by omega) hO rfl rfl rfl rfl (jdet (st' := [aI (rowR sh d)]) rfl ?_)
  refine j_istore_n (pc' := 7) (L' := [some (aR 53), some (aI d), some (aI (rowR sh d)), none, none]) dX12_forged_6 rfl (by decide) rfl ?_
  have hrb := rowR_bd (sh := sh) (d := d)
  refine j_iload_n (pc' := 8) (z := (rowR sh d)) dX12_forged_7 rfl rfl ?_
  refine j_if_eq (tgt := 13) (pc' := 11) dX12_forged_8 (by decide) rfl (by omega) (fun h8 => ?_) (fun h8 => ?_)
  · obtain ⟨hd7, hct⟩ := rowR_0 h8
    obtain ⟨q1, q2, q3, q4, q5, q6⟩ := id (hsh d (by omega))
    have hfe := for_eq (D := D) (n := n) (so := sh 3 d) (F := E d) (sz := sh 4 d) (by omega)
    refine j_iconst (pc' := 14) dX12_forged_13 rfl ?_
    refine j_istore_n (pc' := 15) (L' := [some (aR 53), some (aI d), some (aI (rowR sh d)), some (aI 0), none]) dX12_forged_14 rfl (by decide) rfl ?_
    refine j_iconst (pc' := 16) dX12_forged_15 rfl ?_
    refine j_istore (pc' := 18) (L' := [some (aR 53), some (aI d), some (aI (rowR sh d)), some (aI 0), some (aI 0)]) dX12_forged_16 rfl (by decide) rfl ?_
    have lp18 : ∀ (k9 : Nat) (X : Int → Int) (f : Int) (l9 : Int), (0 ≤ l9 ∧ l9 ≤ 6) → (f = wbX D n (E d) (sh 3 d) (sh 4 d) l9) → (0 ≤ f ∧ f ≤ sh 4 d) → ((6 - l9).toNat) = k9 → J l m_Mod_forged ad G [] false (jZ ad G false 68 m_Mod_forged.2.2.2.2.cells m_Mod_forged.2.2.2.2.slots (jM w (forgedA D n sh E d) D n mi hi Di ni mj sh E)) 68 0 0 18 [some (aR 53), some (aI d), some (aI (rowR sh d)), some (aI f), some (aI l9)] [] (up w 55 (eI 48 X)) := by
      intro k9
      induction k9 using Nat.strongRecOn with
      | _ k9 ih18 =>
        intro X f l9 hl9 hf hfb hk18
        refine j_iload (pc' := 20) (z := l9) dX12_forged_18 rfl rfl ?_
        refine j_bipush (pc' := 22) dX12_forged_20 rfl (by decide) ?_
        refine j_icmp_ge (tgt := 43) (pc' := 25) dX12_forged_22 (by decide) rfl (by omega) (by omega) (fun h22 => ?_) (fun h22 => ?_)
        · refine j_iload_n (pc' := 44) (z := f) dX12_forged_43 rfl rfl ?_
          refine j_aload_n (pc' := 45) (z := 53) dX12_forged_44 rfl rfl ?_
          refine j_get (pc' := 48) (v := aR 65) dX12_forged_45 rfl f_Mod_43 (by omega) ((up_n (by omega)).trans hO) rfl ?_
          refine j_iload_n (pc' := 49) (z := d) dX12_forged_48 rfl rfl ?_
          refine j_iald (pc' := 50) dX12_forged_49 rfl (by omega) ((up_n (by omega)).trans hsi) (by omega) (by decide) ?_
          refine j_top (b := sh 4 d) ((hRel d (by omega)).2.2 (by omega)).2.1 ?_
          refine j_icmp_ne (tgt := 58) (pc' := 53) dX12_forged_50 (by decide) rfl (by omega) (by omega) (fun h50 => ?_) (fun h50 => ?_)
          · refine j_iload_n (pc' := 59) (z := f) dX12_forged_58 rfl rfl ?_
            exact j_iret dX12_forged_59 rfl (jM_of (by unfold forgedA; rw [if_pos h8, hfe, show (6 : Int) = l9 by omega, ← hf]; first | rw [if_pos (by omega)] | rw [if_neg (by omega)]) hT.m)
          · refine j_bipush (pc' := 55) dX12_forged_53 rfl (by decide) ?_
            refine j_goto (pc' := 59) dX12_forged_55 (by decide) ?_
            exact j_iret dX12_forged_59 rfl (jM_of (by unfold forgedA; rw [if_pos h8, hfe, show (6 : Int) = l9 by omega, ← hf]; first | rw [if_pos (by omega)] | rw [if_neg (by omega)]) hT.m)
        · refine j_iload_n (pc' := 26) (z := f) dX12_forged_25 rfl rfl ?_
          refine j_aload_n (pc' := 27) (z := 53) dX12_forged_26 rfl rfl ?_
          refine j_iload_n (pc' := 28) (z := d) dX12_forged_27 rfl rfl ?_
          refine j_iload (pc' := 30) (z := l9) dX12_forged_28 rfl rfl ?_
          refine j_callV (pc' := 33) (as := [aI d, aI l9]) (rest := [aI f]) dX12_forged_30 rfl s_Mod_215 (c_Mod_wrongBy hT.m.1 hB hsh hd7 hct (by omega)) (by omega) ((up_n (by omega)).trans hO) rfl rfl rfl rfl (fun r9 w9 h9 => ?_)
          obtain ⟨rfl, Q1, rfl⟩ := h9
          refine j_st (st' := [aI (wbV D n (E d) (sh 3 d) (sh 4 d) l9), aI f]) rfl ?_
          refine j_w (w' := up w 55 (eI 48 Q1)) (by funext j9; simp only [up]; (repeat' split) <;> first | rfl | (exfalso; omega)) ?_
          have hwb := (wb_at (D := D) (n := n) (so := sh 3 d) (sz := sh 4 d) (l := l9) (F := E d) (by omega)).1
          refine j_callS (pc' := 36) (as := [aI f, aI (wbV D n (E d) (sh 3 d) (sh 4 d) l9)]) (rest := []) dX12_forged_33 rfl s_Mod_57 (c_Mod_most (by omega) (by omega)) rfl rfl rfl (jdet (st' := [aI (max f (wbV D n (E d) (sh 3 d) (sh 4 d) l9))]) rfl ?_)
          refine j_istore_n (pc' := 37) (L' := [some (aR 53), some (aI d), some (aI (rowR sh d)), some (aI (max f (wbV D n (E d) (sh 3 d) (sh 4 d) l9))), some (aI l9)]) dX12_forged_36 rfl (by decide) rfl ?_
          refine j_iinc (pc' := 40) (z := l9) (L' := [some (aR 53), some (aI d), some (aI (rowR sh d)), some (aI (max f (wbV D n (E d) (sh 3 d) (sh 4 d) l9))), some (aI (l9 + 1))]) dX12_forged_37 rfl (by decide) rfl rfl rfl ?_
          refine j_goto (pc' := 18) dX12_forged_40 (by decide) ?_
          exact ih18 _ (by omega) Q1 (max f (wbV D n (E d) (sh 3 d) (sh 4 d) l9)) (l9 + 1) (by omega) (by rw [wbX_s (by omega), ← hf]) (by omega) rfl
    refine j_w (w' := up w 55 (eI 48 Sm)) (by funext j9; simp only [up]; (repeat' split) <;> first | rfl | (subst_vars; assumption) | (subst_vars; symm; assumption) | (exfalso; omega)) ?_
    exact lp18 _ Sm 0 0 (by omega) (by rfl) (by omega) rfl
  · refine j_iload_n (pc' := 12) (z := (rowR sh d)) dX12_forged_11 rfl rfl ?_
    exact j_iret dX12_forged_12 rfl (jM_of (by unfold forgedA; rw [if_neg h8]) hT)
set_option maxRecDepth 100000 in
set_option maxHeartbeats 4000000 in
theorem c_Mod_judge {l : Launch} {w : AW} {D Di : Int → Int → Int} {n mi hi ni mj : Int} {sh E : Int → Int → Int} {d : Int} (hM : Mod w D n mi hi Di ni mj sh E) (hB : CarOK D n mi) (hI : CarOK Di ni mj) (hhi : hi = 0 ∨ hi = 1) (hsh : ShOK sh E) (hwd : WdOK D) (hd : inI d) : Call l m_Mod_judge false 68 68 [aR 53, aI d] w (jM w (judgeA D n sh E d) D n mi hi Di ni mj sh E) := by
  have hT := MS.rf hM
  have hM0 := hM
  obtain ⟨⟨pc, ra, re, fm, se, th, hO⟩, ⟨S, hS, hR⟩, ⟨Sm, hSm⟩, ⟨Si, hSi, hRi⟩, ⟨Sw, hSw⟩, ⟨nu, hnu⟩, ⟨ha, hha⟩, ⟨fg, hfg⟩, ke, kk, kf, so, si, el, ⟨hke, hkk, hkf, hso, hsi, hel⟩, hRel⟩ := hM
  obtain ⟨hn, hD, hs0, hs1, hs2, hs3⟩ := id hB
  refine Call.of (L := [some (aR 53), some (aI d), none, none, none]) rfl (Nat.le_of_ble_eq_true rfl) rfl (fun G ad => ?_)
  refine j_aload_n (pc' := 1) (z := 53) dX12_judge_0 rfl rfl ?_
  refine j_iload_n (pc' := 2) (z := d) dX12_judge_1 rfl rfl ?_
  refine j_iconst (pc' := 3) dX12_judge_2 rfl ?_
  refine j_callV (pc' := 6) (as := [aI d, aI (-1)]) (rest := []) dX12_judge_3 rfl s_Mod_127 (c_Mod_wrongRowN hT.1 hB hsh (by omega)) (by omega) hO rfl rfl rfl rfl (jdet (st' := [aI (rowR sh d)]) rfl ?_)
  refine j_istore_n (pc' := 7) (L' := [some (aR 53), some (aI d), some (aI (rowR sh d)), none, none]) dX12_judge_6 rfl (by decide) rfl ?_
  have hrb := rowR_bd (sh := sh) (d := d)
  refine j_iload_n (pc' := 8) (z := (rowR sh d)) dX12_judge_7 rfl rfl ?_
  refine j_if_eq (tgt := 13) (pc' := 11) dX12_judge_8 (by decide) rfl (by omega) (fun h8 => ?_) (fun h8 => ?_)
  · obtain ⟨hd7, hct⟩ := rowR_0 h8
    obtain ⟨q1, q2, q3, q4, q5, q6⟩ := id (hsh d (by omega))
    have hlb : -2147483648 ≤ least (sh 3 d) ∧ least (sh 3 d) ≤ -128 := by unfold least; (repeat' split) <;> omega
    refine j_aload_n (pc' := 14) (z := 53) dX12_judge_13 rfl rfl ?_
    refine j_get (pc' := 17) (v := aR 54) dX12_judge_14 rfl f_Mod_9 (by omega) hO rfl ?_
    refine j_aload_n (pc' := 18) (z := 53) dX12_judge_17 rfl rfl ?_
    refine j_get (pc' := 21) (v := aR 55) dX12_judge_18 rfl f_Mod_13 (by omega) hO rfl ?_
    refine j_callS (pc' := 24) (as := [aR 54, aR 55]) (rest := []) dX12_judge_21 rfl s_Mod_134 (c_Mod_lays hS hSm (by omega) (by omega) (by omega)) rfl rfl rfl (jdet (st' := []) rfl ?_)
    refine j_iconst (pc' := 25) dX12_judge_24 rfl ?_
    refine j_istore_n (pc' := 26) (L' := [some (aR 53), some (aI d), some (aI (rowR sh d)), some (aI 0), none]) dX12_judge_25 rfl (by decide) rfl ?_
    have lp26 : ∀ (k9 : Nat) (X : Int → Int) (Dx : Int → Int → Int) (i : Int), (0 ≤ i ∧ i ≤ sh 4 d) → (Row X Dx n mi) → (CarOK Dx n mi) → (WdOK Dx) → (judgeA D n sh E d = jdI n (E d) (sh 3 d) (sh 4 d - i).toNat i Dx) → ((sh 4 d - i).toNat) = k9 → J l m_Mod_judge ad G [] false (jZ ad G false 68 m_Mod_judge.2.2.2.2.cells m_Mod_judge.2.2.2.2.slots (jM w (judgeA D n sh E d) D n mi hi Di ni mj sh E)) 68 0 0 26 [some (aR 53), some (aI d), some (aI (rowR sh d)), some (aI i), none] [] (up w 55 (eI 48 X)) := by
      intro k9
      induction k9 using Nat.strongRecOn with
      | _ k9 ih26 =>
        intro X Dx i hi9 hX hXB hXW hv hk26
        refine j_iload_n (pc' := 27) (z := i) dX12_judge_26 rfl rfl ?_
        refine j_aload_n (pc' := 28) (z := 53) dX12_judge_27 rfl rfl ?_
        refine j_get (pc' := 31) (v := aR 65) dX12_judge_28 rfl f_Mod_43 (by omega) ((up_n (by omega)).trans hO) rfl ?_
        refine j_iload_n (pc' := 32) (z := d) dX12_judge_31 rfl rfl ?_
        refine j_iald (pc' := 33) dX12_judge_32 rfl (by omega) ((up_n (by omega)).trans hsi) (by omega) (by decide) ?_
        refine j_top (b := sh 4 d) ((hRel d (by omega)).2.2 (by omega)).2.1 ?_
        refine j_icmp_ge (tgt := 92) (pc' := 36) dX12_judge_33 (by decide) rfl (by omega) (by omega) (fun h33 => ?_) (fun h33 => ?_)
        · refine j_bipush (pc' := 94) dX12_judge_92 rfl (by decide) ?_
          exact j_iret dX12_judge_94 rfl (jM_of (by rw [hv, jdI_z (by omega)]) hT.m)
        · refine j_aload_n (pc' := 37) (z := 53) dX12_judge_36 rfl rfl ?_
          refine j_get (pc' := 40) (v := aR 55) dX12_judge_37 rfl f_Mod_13 (by omega) ((up_n (by omega)).trans hO) rfl ?_
          refine j_callS (pc' := 43) (as := [aR 55]) (rest := []) dX12_judge_40 rfl s_Mod_124 (c_Mod_drive up_s (by omega) hX hXB hXW ) rfl rfl rfl (fun r9 w9 h9 => ?_)
          obtain ⟨rfl, S1, hR1, rfl⟩ := h9
          refine j_st (st' := [aI (hrd Dx n 0 (Dx 6 0))]) rfl ?_
          refine j_w (w' := up w 55 (eI 48 S1)) (by funext j9; simp only [up]; (repeat' split) <;> first | rfl | (exfalso; omega)) ?_
          have hhb := hrd_bd (seat := 0) (pace := Dx 6 0) hXB
          have hEi := q6 i (by omega) (by omega)
          refine j_istore (pc' := 45) (L' := [some (aR 53), some (aI d), some (aI (rowR sh d)), some (aI i), some (aI (hrd Dx n 0 (Dx 6 0)))]) dX12_judge_43 rfl (by decide) rfl ?_
          refine j_aload_n (pc' := 46) (z := 53) dX12_judge_45 rfl rfl ?_
          refine j_get (pc' := 49) (v := aR 66) dX12_judge_46 rfl f_Mod_46 (by omega) ((up_n (by omega)).trans hO) rfl ?_
          refine j_bipush (pc' := 51) dX12_judge_49 rfl (by decide) ?_
          refine j_iload_n (pc' := 52) (z := d) dX12_judge_51 rfl rfl ?_
          refine j_imul (pc' := 53) dX12_judge_52 rfl ?_
          refine j_iload_n (pc' := 54) (z := i) dX12_judge_53 rfl rfl ?_
          refine j_iadd (pc' := 55) dX12_judge_54 rfl ?_
          refine j_iald (pc' := 56) dX12_judge_55 rfl (by omega) ((up_n (by omega)).trans hel) (by omega) (by decide) ?_
          refine j_top (b := E d i) (((hRel d (by omega)).2.2 (by omega)).2.2 i (by omega)) ?_
          refine j_aload_n (pc' := 57) (z := 53) dX12_judge_56 rfl rfl ?_
          refine j_get (pc' := 60) (v := aR 64) dX12_judge_57 rfl f_Mod_40 (by omega) ((up_n (by omega)).trans hO) rfl ?_
          refine j_iload_n (pc' := 61) (z := d) dX12_judge_60 rfl rfl ?_
          refine j_iald (pc' := 62) dX12_judge_61 rfl (by omega) ((up_n (by omega)).trans hso) (by omega) (by decide) ?_
          refine j_top (b := sh 3 d) ((hRel d (by omega)).2.2 (by omega)).1 ?_
          refine j_callS (pc' := 65) (as := [aI (sh 3 d)]) (rest := [aI (E d i)]) dX12_judge_62 rfl s_Mod_212 (c_Mod_leastOf (by omega)) rfl rfl rfl (jdet (st' := [aI (least (sh 3 d)), aI (E d i)]) rfl ?_)
          refine j_icmp_eq (tgt := 86) (pc' := 68) dX12_judge_65 (by decide) rfl (by omega) (by omega) (fun h65 => ?_) (fun h65 => ?_)
          · refine j_iinc (pc' := 89) (z := i) (L' := [some (aR 53), some (aI d), some (aI (rowR sh d)), some (aI (i + 1)), some (aI (hrd Dx n 0 (Dx 6 0)))]) dX12_judge_86 rfl (by decide) rfl rfl rfl ?_
            refine j_goto (pc' := 26) dX12_judge_89 (by decide) ?_
            refine j_forget 4 (L' := [some (aR 53), some (aI d), some (aI (rowR sh d)), some (aI (i + 1)), none]) rfl ?_
            exact ih26 _ (by omega) S1 (endD Dx n) (i + 1) (by omega) (by exact hR1) (by exact hXB.end hXW) (by exact hXW.end) (by rw [hv, jdI_n (by omega) (by omega)]) rfl
          · refine j_aload_n (pc' := 69) (z := 53) dX12_judge_68 rfl rfl ?_
            refine j_get (pc' := 72) (v := aR 66) dX12_judge_69 rfl f_Mod_46 (by omega) ((up_n (by omega)).trans hO) rfl ?_
            refine j_bipush (pc' := 74) dX12_judge_72 rfl (by decide) ?_
            refine j_iload_n (pc' := 75) (z := d) dX12_judge_74 rfl rfl ?_
            refine j_imul (pc' := 76) dX12_judge_75 rfl ?_
            refine j_iload_n (pc' := 77) (z := i) dX12_judge_76 rfl rfl ?_
            refine j_iadd (pc' := 78) dX12_judge_77 rfl ?_
            refine j_iald (pc' := 79) dX12_judge_78 rfl (by omega) ((up_n (by omega)).trans hel) (by omega) (by decide) ?_
            refine j_top (b := E d i) (((hRel d (by omega)).2.2 (by omega)).2.2 i (by omega)) ?_
            refine j_iload (pc' := 81) (z := (hrd Dx n 0 (Dx 6 0))) dX12_judge_79 rfl rfl ?_
            refine j_icmp_eq (tgt := 86) (pc' := 84) dX12_judge_81 (by decide) rfl (by omega) (by omega) (fun h81 => ?_) (fun h81 => ?_)
            · refine j_iinc (pc' := 89) (z := i) (L' := [some (aR 53), some (aI d), some (aI (rowR sh d)), some (aI (i + 1)), some (aI (hrd Dx n 0 (Dx 6 0)))]) dX12_judge_86 rfl (by decide) rfl rfl rfl ?_
              refine j_goto (pc' := 26) dX12_judge_89 (by decide) ?_
              refine j_forget 4 (L' := [some (aR 53), some (aI d), some (aI (rowR sh d)), some (aI (i + 1)), none]) rfl ?_
              exact ih26 _ (by omega) S1 (endD Dx n) (i + 1) (by omega) (by exact hR1) (by exact hXB.end hXW) (by exact hXW.end) (by rw [hv, jdI_n (by omega) (by omega)]) rfl
            · refine j_iload_n (pc' := 85) (z := i) dX12_judge_84 rfl rfl ?_
              exact j_iret dX12_judge_85 rfl (jM_of (by rw [hv, jdI_y (by omega) (by omega)]) hT.m)
    exact lp26 _ S D 0 (by omega) (by exact hR) (by exact hB) (by exact hwd) (by unfold judgeA; rw [if_pos h8, Int.sub_zero]) rfl
  · refine j_iload_n (pc' := 12) (z := (rowR sh d)) dX12_judge_11 rfl rfl ?_
    exact j_iret dX12_judge_12 rfl (jM_of (by unfold judgeA; rw [if_neg h8]) hT)
set_option maxRecDepth 100000 in
set_option maxHeartbeats 4000000 in
theorem c_Mod_drawn {l : Launch} {w : AW} {k : Int} {hi pc ra re fm se th : Int} (hO : w 53 = mOb hi pc ra re fm se th) (hk : 1 ≤ k ∧ k ≤ 1000) : Call l m_Mod_drawn false 68 68 [aR 53, aI k] w (rt (some (aI (drw (lcg se) % k))) (up w 53 (mOb hi pc ra re fm (lcg se) th))) := by
  refine Call.of (L := [some (aR 53), some (aI k)]) rfl (Nat.le_of_ble_eq_true rfl) rfl (fun G ad => ?_)
  refine j_aload_n (pc' := 1) (z := 53) dX12_drawn_0 rfl rfl ?_
  refine j_aload_n (pc' := 2) (z := 53) dX12_drawn_1 rfl rfl ?_
  refine j_get (pc' := 5) (v := aI se) dX12_drawn_2 rfl f_Mod_218 (by omega) hO rfl ?_
  refine j_ldc (pc' := 7) (n := 1103515245) dX12_drawn_5 rfl k_Mod_221 (by decide) ?_
  refine j_imul (pc' := 8) dX12_drawn_7 rfl ?_
  refine j_sipush (pc' := 11) dX12_drawn_8 rfl (by decide) ?_
  refine j_iadd (pc' := 12) dX12_drawn_11 rfl ?_
  refine j_putI (pc' := 15) dX12_drawn_12 rfl p_Mod_218 (by omega) hO (Nat.le_of_ble_eq_true rfl) ?_
  refine j_w (w' := up w 53 (eO 11 [aR 54, aR 55, aR 56, aR 57, aI hi, aI pc, aI ra, aI re, aR 58, aR 59, aR 60, aI fm, aI ((se * 1103515245) + 12345), aR 61, aR 62, aR 63, aR 64, aR 65, aR 66, aI th])) rfl ?_
  refine j_aload_n (pc' := 16) (z := 53) dX12_drawn_15 rfl rfl ?_
  refine j_get (pc' := 19) (v := aI ((se * 1103515245) + 12345)) dX12_drawn_16 rfl f_Mod_218 (by omega) up_s rfl ?_
  refine j_ldc (pc' := 21) (n := 2147483647) dX12_drawn_19 rfl k_Mod_222 (by decide) ?_
  refine j_imask (pc' := 22) 31 dX12_drawn_21 rfl (by decide) rfl ?_
  refine j_ldc (pc' := 24) (n := 65536) dX12_drawn_22 rfl k_Mod_223 (by decide) ?_
  refine j_idiv (pc' := 25) dX12_drawn_24 rfl (by omega) (by omega) ?_
  refine j_iload_n (pc' := 26) (z := k) dX12_drawn_25 rfl rfl ?_
  refine j_irem (pc' := 27) dX12_drawn_26 rfl (by omega) (by omega) ?_
  exact j_iret dX12_drawn_27 rfl (id (by refine ⟨?_, rfl⟩; unfold drw lcg; rw [show (2 : Int) ^ 31 = 2147483648 by decide]))
set_option maxRecDepth 100000 in
set_option maxHeartbeats 4000000 in
theorem c_Mod_winters {l : Launch} {w : AW} {D Di : Int → Int → Int} {n mi hi ni mj : Int} {sh E : Int → Int → Int} {m z x : Int} (hM : Mod w D n mi hi Di ni mj sh E) (hB : CarOK D n mi) (hI : CarOK Di ni mj) (hhi : hi = 0 ∨ hi = 1) (hsh : ShOK sh E) (hwd : WdOK D) (hm : inI m) (hz : inI z) (hx : inI x) : Call l m_Mod_winters false 68 68 [aR 53, aI m, aI z, aI x] w (jM w (winA D n m z x) D n mi hi Di ni mj sh E) := by
  have hT := MS.rf hM
  have hM0 := hM
  obtain ⟨⟨pc, ra, re, fm, se, th, hO⟩, ⟨S, hS, hR⟩, ⟨Sm, hSm⟩, ⟨Si, hSi, hRi⟩, ⟨Sw, hSw⟩, ⟨nu, hnu⟩, ⟨ha, hha⟩, ⟨fg, hfg⟩, ke, kk, kf, so, si, el, ⟨hke, hkk, hkf, hso, hsi, hel⟩, hRel⟩ := hM
  obtain ⟨hn, hD, hs0, hs1, hs2, hs3⟩ := id hB
  refine Call.of (L := [some (aR 53), some (aI m), some (aI z), some (aI x), none, none, none, none]) rfl (Nat.le_of_ble_eq_true rfl) rfl (fun G ad => ?_)
  refine j_iload_n (pc' := 1) (z := m) dX12_winters_0 rfl rfl ?_
  refine j_iconst (pc' := 2) dX12_winters_1 rfl ?_
  refine j_bipush (pc' := 4) dX12_winters_2 rfl (by decide) ?_
  refine j_callS (pc' := 7) (as := [aI m, aI 1, aI 20]) (rest := []) dX12_winters_4 rfl s_Mod_49 (c_Mod_isIn (by omega) (by omega) (by omega)) rfl rfl rfl (jdet (st' := [aB (1 ≤ m ∧ m ≤ 20)]) rfl ?_)
  refine j_ifb_eq (tgt := 19) (pc' := 10) dX12_winters_7 (by decide) rfl (fun h7 => ?_) (fun h7 => ?_)
  · refine j_iconst (pc' := 20) dX12_winters_19 rfl ?_
    exact j_iret dX12_winters_20 rfl (jM_of (by unfold winA; rw [if_neg (by omega)]) hT)
  · refine j_iload_n (pc' := 11) (z := x) dX12_winters_10 rfl rfl ?_
    refine j_iconst (pc' := 12) dX12_winters_11 rfl ?_
    refine j_iconst (pc' := 13) dX12_winters_12 rfl ?_
    refine j_callS (pc' := 16) (as := [aI x, aI 0, aI 1]) (rest := []) dX12_winters_13 rfl s_Mod_49 (c_Mod_isIn (by omega) (by omega) (by omega)) rfl rfl rfl (jdet (st' := [aB (0 ≤ x ∧ x ≤ 1)]) rfl ?_)
    refine j_ifb_ne (tgt := 21) (pc' := 19) dX12_winters_16 (by decide) rfl (fun h16 => ?_) (fun h16 => ?_)
    · refine j_aload_n (pc' := 22) (z := 53) dX12_winters_21 rfl rfl ?_
      refine j_iload_n (pc' := 23) (z := z) dX12_winters_22 rfl rfl ?_
      refine j_putI (pc' := 26) dX12_winters_23 rfl p_Mod_218 (by omega) hO (Nat.le_of_ble_eq_true rfl) ?_
      refine j_w (w' := up w 53 (eO 11 [aR 54, aR 55, aR 56, aR 57, aI hi, aI pc, aI ra, aI re, aR 58, aR 59, aR 60, aI fm, aI z, aR 61, aR 62, aR 63, aR 64, aR 65, aR 66, aI th])) rfl ?_
      refine j_iconst (pc' := 27) dX12_winters_26 rfl ?_
      refine j_istore (pc' := 29) (L' := [some (aR 53), some (aI m), some (aI z), some (aI x), some (aI 0), none, none, none]) dX12_winters_27 rfl (by decide) rfl ?_
      refine j_iconst (pc' := 30) dX12_winters_29 rfl ?_
      refine j_istore (pc' := 32) (L' := [some (aR 53), some (aI m), some (aI z), some (aI x), some (aI 0), some (aI 0), none, none]) dX12_winters_30 rfl (by decide) rfl ?_
      have lp32 : ∀ (k9 : Nat) (z1 : Int) (v : Int) (X : Int → Int) (k : Int), (0 ≤ k ∧ k ≤ m) → (z1 = (wnF D n z (10 * k)).1) → (v = winR x (wnF D n z (10 * k)).2.1 (wnF D n z (10 * k)).2.2.1) → ((m - k).toNat) = k9 → J l m_Mod_winters ad G [] false (jZ ad G false 68 m_Mod_winters.2.2.2.2.cells m_Mod_winters.2.2.2.2.slots (jM w (winA D n m z x) D n mi hi Di ni mj sh E)) 68 0 0 32 [some (aR 53), some (aI m), some (aI z), some (aI x), some (aI v), some (aI k), none, none] [] (up (up w 53 (eO 11 [aR 54, aR 55, aR 56, aR 57, aI hi, aI pc, aI ra, aI re, aR 58, aR 59, aR 60, aI fm, aI z1, aR 61, aR 62, aR 63, aR 64, aR 65, aR 66, aI th])) 55 (eI 48 X)) := by
        intro k9
        induction k9 using Nat.strongRecOn with
        | _ k9 ih32 =>
          intro z1 v X k hk9 hz9 hv hk32
          refine j_iload (pc' := 34) (z := k) dX12_winters_32 rfl rfl ?_
          refine j_iload_n (pc' := 35) (z := m) dX12_winters_34 rfl rfl ?_
          refine j_icmp_ge (tgt := 129) (pc' := 38) dX12_winters_35 (by decide) rfl (by omega) (by omega) (fun h35 => ?_) (fun h35 => ?_)
          · refine j_iload (pc' := 131) (z := v) dX12_winters_129 rfl rfl ?_
            exact j_iret dX12_winters_131 rfl (jM_of (by unfold winA; rw [if_pos (by omega), hv, show m * 10 = 10 * k by omega]; unfold winR; (repeat' split) <;> first | rfl | omega) hT.ob.m)
          · refine j_aload_n (pc' := 39) (z := 53) dX12_winters_38 rfl rfl ?_
            refine j_get (pc' := 42) (v := aR 54) dX12_winters_39 rfl f_Mod_9 (by omega) ((up_n (by omega)).trans up_s) rfl ?_
            refine j_aload_n (pc' := 43) (z := 53) dX12_winters_42 rfl rfl ?_
            refine j_get (pc' := 46) (v := aR 55) dX12_winters_43 rfl f_Mod_13 (by omega) ((up_n (by omega)).trans up_s) rfl ?_
            refine j_callS (pc' := 49) (as := [aR 54, aR 55]) (rest := []) dX12_winters_46 rfl s_Mod_134 (c_Mod_lays ((up_n (by omega)).trans ((up_n (by omega)).trans hS)) up_s (by omega) (by omega) (by omega)) rfl rfl rfl (jdet (st' := []) rfl ?_)
            refine j_w (w' := up (up w 53 (eO 11 [aR 54, aR 55, aR 56, aR 57, aI hi, aI pc, aI ra, aI re, aR 58, aR 59, aR 60, aI fm, aI z1, aR 61, aR 62, aR 63, aR 64, aR 65, aR 66, aI th])) 55 (eI 48 S)) (by funext j9; simp only [up]; (repeat' split) <;> first | rfl | (exfalso; omega)) ?_
            refine j_iconst (pc' := 50) dX12_winters_49 rfl ?_
            refine j_istore (pc' := 52) (L' := [some (aR 53), some (aI m), some (aI z), some (aI x), some (aI v), some (aI k), some (aI 0), none]) dX12_winters_50 rfl (by decide) rfl ?_
            have lp52 : ∀ (k9 : Nat) (z1 : Int) (v : Int) (X : Int → Int) (Dx : Int → Int → Int) (i : Int), (0 ≤ i ∧ i ≤ 10) → (z1 = (wnF D n z (10 * k + i)).1) → (v = winR x (wnF D n z (10 * k + i)).2.1 (wnF D n z (10 * k + i)).2.2.1) → (Row X Dx n mi) → (CarOK Dx n mi) → (WdOK Dx) → ((i = 0 → Dx = D) ∧ (¬ i = 0 → (wnF D n z (10 * k + i)).2.2.2 = Dx)) → ((10 - i).toNat) = k9 → J l m_Mod_winters ad G [] false (jZ ad G false 68 m_Mod_winters.2.2.2.2.cells m_Mod_winters.2.2.2.2.slots (jM w (winA D n m z x) D n mi hi Di ni mj sh E)) 68 0 0 52 [some (aR 53), some (aI m), some (aI z), some (aI x), some (aI v), some (aI k), some (aI i), none] [] (up (up w 53 (eO 11 [aR 54, aR 55, aR 56, aR 57, aI hi, aI pc, aI ra, aI re, aR 58, aR 59, aR 60, aI fm, aI z1, aR 61, aR 62, aR 63, aR 64, aR 65, aR 66, aI th])) 55 (eI 48 X)) := by
              intro k9
              induction k9 using Nat.strongRecOn with
              | _ k9 ih52 =>
                intro z1 v X Dx i hi9 hz9 hv hX hXB hXW0 hDx hk52
                refine j_iload (pc' := 54) (z := i) dX12_winters_52 rfl rfl ?_
                refine j_bipush (pc' := 56) dX12_winters_54 rfl (by decide) ?_
                refine j_icmp_ge (tgt := 123) (pc' := 59) dX12_winters_56 (by decide) rfl (by omega) (by omega) (fun h56 => ?_) (fun h56 => ?_)
                · refine j_iinc (pc' := 126) (z := k) (L' := [some (aR 53), some (aI m), some (aI z), some (aI x), some (aI v), some (aI (k + 1)), some (aI i), none]) dX12_winters_123 rfl (by decide) rfl rfl rfl ?_
                  refine j_goto (pc' := 32) dX12_winters_126 (by decide) ?_
                  refine j_forget 6 (L' := [some (aR 53), some (aI m), some (aI z), some (aI x), some (aI v), some (aI (k + 1)), none, none]) rfl ?_
                  exact ih32 _ (by omega) z1 v X (k + 1) (by omega) (by rw [hz9, show 10 * (k + 1) = 10 * k + i by omega]) (by rw [hv, show 10 * (k + 1) = 10 * k + i by omega]) rfl
                · have hst : wnH D n (10 * k + i) (wnF D n z (10 * k + i)) = wn1 n (z1, (wnF D n z (10 * k + i)).2.1, (wnF D n z (10 * k + i)).2.2.1, Dx) := by
                    by_cases i0 : i = 0
                    · rw [hDx.1 i0]; exact wnH_d hz9 rfl rfl (by omega)
                    · exact wnH_x hz9 rfl rfl (by omega) (hDx.2 i0)
                  have hws := wn_step (z := z) (by omega) hst
                  refine j_aload_n (pc' := 60) (z := 53) dX12_winters_59 rfl rfl ?_
                  refine j_get (pc' := 63) (v := aR 55) dX12_winters_60 rfl f_Mod_13 (by omega) ((up_n (by omega)).trans up_s) rfl ?_
                  refine j_iconst (pc' := 64) dX12_winters_63 rfl ?_
                  refine j_aload_n (pc' := 65) (z := 53) dX12_winters_64 rfl rfl ?_
                  refine j_bipush (pc' := 67) dX12_winters_65 rfl (by decide) ?_
                  refine j_callV (pc' := 70) (as := [aI 100]) (rest := [aI 2, aR 55]) dX12_winters_67 rfl s_Mod_224 (c_Mod_drawn ((up_n (by omega)).trans up_s) (by omega)) (by omega) ((up_n (by omega)).trans up_s) rfl rfl rfl rfl (jdet (st' := [aI (drw (lcg z1) % 100), aI 2, aR 55]) rfl ?_)
                  refine j_w (w' := up (up w 53 (eO 11 [aR 54, aR 55, aR 56, aR 57, aI hi, aI pc, aI ra, aI re, aR 58, aR 59, aR 60, aI fm, aI (lcg z1), aR 61, aR 62, aR 63, aR 64, aR 65, aR 66, aI th])) 55 (eI 48 X)) (by funext j9; simp only [up]; (repeat' split) <;> first | rfl | (exfalso; omega)) ?_
                  refine j_iast (pc' := 71) dX12_winters_70 rfl (by omega) up_s (by omega) (by decide) ?_
                  refine j_w (w' := up (up w 53 (eO 11 [aR 54, aR 55, aR 56, aR 57, aI hi, aI pc, aI ra, aI re, aR 58, aR 59, aR 60, aI fm, aI (lcg z1), aR 61, aR 62, aR 63, aR 64, aR 65, aR 66, aI th])) 55 (eI 48 (upi X 2 (drw (lcg z1) % 100)))) (by funext j9; simp only [up]; (repeat' split) <;> first | rfl | (exfalso; omega)) ?_
                  refine j_aload_n (pc' := 72) (z := 53) dX12_winters_71 rfl rfl ?_
                  refine j_get (pc' := 75) (v := aR 55) dX12_winters_72 rfl f_Mod_13 (by omega) ((up_n (by omega)).trans up_s) rfl ?_
                  refine j_iconst (pc' := 76) dX12_winters_75 rfl ?_
                  refine j_aload_n (pc' := 77) (z := 53) dX12_winters_76 rfl rfl ?_
                  refine j_bipush (pc' := 79) dX12_winters_77 rfl (by decide) ?_
                  refine j_callV (pc' := 82) (as := [aI 10]) (rest := [aI 3, aR 55]) dX12_winters_79 rfl s_Mod_224 (c_Mod_drawn ((up_n (by omega)).trans up_s) (by omega)) (by omega) ((up_n (by omega)).trans up_s) rfl rfl rfl rfl (jdet (st' := [aI (drw (lcg (lcg z1)) % 10), aI 3, aR 55]) rfl ?_)
                  refine j_w (w' := up (up w 53 (eO 11 [aR 54, aR 55, aR 56, aR 57, aI hi, aI pc, aI ra, aI re, aR 58, aR 59, aR 60, aI fm, aI (lcg (lcg z1)), aR 61, aR 62, aR 63, aR 64, aR 65, aR 66, aI th])) 55 (eI 48 (upi X 2 (drw (lcg z1) % 100)))) (by funext j9; simp only [up]; (repeat' split) <;> first | rfl | (exfalso; omega)) ?_
                  refine j_iast (pc' := 83) dX12_winters_82 rfl (by omega) up_s (by omega) (by decide) ?_
                  refine j_w (w' := up (up w 53 (eO 11 [aR 54, aR 55, aR 56, aR 57, aI hi, aI pc, aI ra, aI re, aR 58, aR 59, aR 60, aI fm, aI (lcg (lcg z1)), aR 61, aR 62, aR 63, aR 64, aR 65, aR 66, aI th])) 55 (eI 48 (upi (upi X 2 (drw (lcg z1) % 100)) 3 (drw (lcg (lcg z1)) % 10)))) (by funext j9; simp only [up]; (repeat' split) <;> first | rfl | (exfalso; omega)) ?_
                  refine j_aload_n (pc' := 84) (z := 53) dX12_winters_83 rfl rfl ?_
                  refine j_get (pc' := 87) (v := aR 55) dX12_winters_84 rfl f_Mod_13 (by omega) ((up_n (by omega)).trans up_s) rfl ?_
                  have hXW := wnD_wd (z := z1) hXW0
                  refine j_callS (pc' := 90) (as := [aR 55]) (rest := []) dX12_winters_87 rfl s_Mod_124 (c_Mod_drive up_s (by omega) ((((hX.set (k := 0) (x := drw (lcg z1) % 100) (by omega)).ex rfl).set (k := 1) (x := drw (lcg (lcg z1)) % 10) (by omega)).ex rfl) (wnD_ok (z := z1) hXB) hXW ) rfl rfl rfl (fun r9 w9 h9 => ?_)
                  obtain ⟨rfl, S1, hR1, rfl⟩ := h9
                  refine j_st (st' := [aI (hrd (wnD Dx z1) n 0 ((wnD Dx z1) 6 0))]) rfl ?_
                  refine j_w (w' := up (up w 53 (eO 11 [aR 54, aR 55, aR 56, aR 57, aI hi, aI pc, aI ra, aI re, aR 58, aR 59, aR 60, aI fm, aI (lcg (lcg z1)), aR 61, aR 62, aR 63, aR 64, aR 65, aR 66, aI th])) 55 (eI 48 S1)) (by funext j9; simp only [up]; (repeat' split) <;> first | rfl | (exfalso; omega)) ?_
                  have hhb := hrd_bd (seat := 0) (pace := wnD Dx z1 6 0) (wnD_ok (z := z1) hXB)
                  refine j_istore (pc' := 92) (L' := [some (aR 53), some (aI m), some (aI z), some (aI x), some (aI v), some (aI k), some (aI i), some (aI (hrd (wnD Dx z1) n 0 ((wnD Dx z1) 6 0)))]) dX12_winters_90 rfl (by decide) rfl ?_
                  refine j_iload (pc' := 94) (z := v) dX12_winters_92 rfl rfl ?_
                  refine j_iload_n (pc' := 95) (z := x) dX12_winters_94 rfl rfl ?_
                  refine j_iconst (pc' := 96) dX12_winters_95 rfl ?_
                  refine j_icmp_ne (tgt := 104) (pc' := 99) dX12_winters_96 (by decide) rfl (by omega) (by omega) (fun h96 => ?_) (fun h96 => ?_)
                  · refine j_iload (pc' := 106) (z := (hrd (wnD Dx z1) n 0 ((wnD Dx z1) 6 0))) dX12_winters_104 rfl rfl ?_
                    refine j_if_le (tgt := 113) (pc' := 109) dX12_winters_106 (by decide) rfl (by omega) (fun h106 => ?_) (fun h106 => ?_)
                    · refine j_iconst (pc' := 114) dX12_winters_113 rfl ?_
                      refine j_iadd (pc' := 115) dX12_winters_114 rfl ?_
                      refine j_istore (pc' := 117) (L' := [some (aR 53), some (aI m), some (aI z), some (aI x), some (aI (v + 0)), some (aI k), some (aI i), some (aI (hrd (wnD Dx z1) n 0 ((wnD Dx z1) 6 0)))]) dX12_winters_115 rfl (by decide) rfl ?_
                      refine j_iinc (pc' := 120) (z := i) (L' := [some (aR 53), some (aI m), some (aI z), some (aI x), some (aI (v + 0)), some (aI k), some (aI (i + 1)), some (aI (hrd (wnD Dx z1) n 0 ((wnD Dx z1) 6 0)))]) dX12_winters_117 rfl (by decide) rfl rfl rfl ?_
                      refine j_goto (pc' := 52) dX12_winters_120 (by decide) ?_
                      refine j_forget 7 (L' := [some (aR 53), some (aI m), some (aI z), some (aI x), some (aI (v + 0)), some (aI k), some (aI (i + 1)), none]) rfl ?_
                      exact ih52 _ (by omega) (lcg (lcg z1)) (v + 0) S1 (endD (wnD Dx z1) n) (i + 1) (by omega) (by rw [show 10 * k + (i + 1) = 10 * k + i + 1 by omega, hws]; rfl) (by rw [show 10 * k + (i + 1) = 10 * k + i + 1 by omega, hws, hv]; unfold winR wn1; dsimp only; first | rw [if_pos h96, if_pos h96] | (rw [if_neg h96, if_neg h96]; first | rw [if_pos (by omega)] | rw [if_neg (by omega)])) (by exact hR1) (by exact (wnD_ok hXB).end (wnD_wd hXW0)) (by exact (wnD_wd hXW0).end) (by exact ⟨fun q => by omega, fun _ => by rw [show 10 * k + (i + 1) = 10 * k + i + 1 by omega, hws]; rfl⟩) rfl
                    · refine j_iconst (pc' := 110) dX12_winters_109 rfl ?_
                      refine j_goto (pc' := 114) dX12_winters_110 (by decide) ?_
                      refine j_iadd (pc' := 115) dX12_winters_114 rfl ?_
                      refine j_istore (pc' := 117) (L' := [some (aR 53), some (aI m), some (aI z), some (aI x), some (aI (v + 1)), some (aI k), some (aI i), some (aI (hrd (wnD Dx z1) n 0 ((wnD Dx z1) 6 0)))]) dX12_winters_115 rfl (by decide) rfl ?_
                      refine j_iinc (pc' := 120) (z := i) (L' := [some (aR 53), some (aI m), some (aI z), some (aI x), some (aI (v + 1)), some (aI k), some (aI (i + 1)), some (aI (hrd (wnD Dx z1) n 0 ((wnD Dx z1) 6 0)))]) dX12_winters_117 rfl (by decide) rfl rfl rfl ?_
                      refine j_goto (pc' := 52) dX12_winters_120 (by decide) ?_
                      refine j_forget 7 (L' := [some (aR 53), some (aI m), some (aI z), some (aI x), some (aI (v + 1)), some (aI k), some (aI (i + 1)), none]) rfl ?_
                      exact ih52 _ (by omega) (lcg (lcg z1)) (v + 1) S1 (endD (wnD Dx z1) n) (i + 1) (by omega) (by rw [show 10 * k + (i + 1) = 10 * k + i + 1 by omega, hws]; rfl) (by rw [show 10 * k + (i + 1) = 10 * k + i + 1 by omega, hws, hv]; unfold winR wn1; dsimp only; first | rw [if_pos h96, if_pos h96] | (rw [if_neg h96, if_neg h96]; first | rw [if_pos (by omega)] | rw [if_neg (by omega)])) (by exact hR1) (by exact (wnD_ok hXB).end (wnD_wd hXW0)) (by exact (wnD_wd hXW0).end) (by exact ⟨fun q => by omega, fun _ => by rw [show 10 * k + (i + 1) = 10 * k + i + 1 by omega, hws]; rfl⟩) rfl
                  · refine j_iload (pc' := 101) (z := (hrd (wnD Dx z1) n 0 ((wnD Dx z1) 6 0))) dX12_winters_99 rfl rfl ?_
                    refine j_goto (pc' := 114) dX12_winters_101 (by decide) ?_
                    refine j_iadd (pc' := 115) dX12_winters_114 rfl ?_
                    refine j_istore (pc' := 117) (L' := [some (aR 53), some (aI m), some (aI z), some (aI x), some (aI (v + (hrd (wnD Dx z1) n 0 ((wnD Dx z1) 6 0)))), some (aI k), some (aI i), some (aI (hrd (wnD Dx z1) n 0 ((wnD Dx z1) 6 0)))]) dX12_winters_115 rfl (by decide) rfl ?_
                    refine j_iinc (pc' := 120) (z := i) (L' := [some (aR 53), some (aI m), some (aI z), some (aI x), some (aI (v + (hrd (wnD Dx z1) n 0 ((wnD Dx z1) 6 0)))), some (aI k), some (aI (i + 1)), some (aI (hrd (wnD Dx z1) n 0 ((wnD Dx z1) 6 0)))]) dX12_winters_117 rfl (by decide) rfl rfl rfl ?_
                    refine j_goto (pc' := 52) dX12_winters_120 (by decide) ?_
                    refine j_forget 7 (L' := [some (aR 53), some (aI m), some (aI z), some (aI x), some (aI (v + (hrd (wnD Dx z1) n 0 ((wnD Dx z1) 6 0)))), some (aI k), some (aI (i + 1)), none]) rfl ?_
                    exact ih52 _ (by omega) (lcg (lcg z1)) (v + (hrd (wnD Dx z1) n 0 ((wnD Dx z1) 6 0))) S1 (endD (wnD Dx z1) n) (i + 1) (by omega) (by rw [show 10 * k + (i + 1) = 10 * k + i + 1 by omega, hws]; rfl) (by rw [show 10 * k + (i + 1) = 10 * k + i + 1 by omega, hws, hv]; unfold winR wn1; dsimp only; first | rw [if_pos h96, if_pos h96] | (rw [if_neg h96, if_neg h96]; first | rw [if_pos (by omega)] | rw [if_neg (by omega)])) (by exact hR1) (by exact (wnD_ok hXB).end (wnD_wd hXW0)) (by exact (wnD_wd hXW0).end) (by exact ⟨fun q => by omega, fun _ => by rw [show 10 * k + (i + 1) = 10 * k + i + 1 by omega, hws]; rfl⟩) rfl
            exact lp52 _ z1 v S D 0 (by omega) (by rw [hz9, Int.add_zero]) (by rw [hv, Int.add_zero]) (by exact hR) (by exact hB) (by exact hwd) (by exact ⟨fun _ => rfl, fun q => absurd rfl q⟩) rfl
      refine j_w (w' := up (up w 53 (eO 11 [aR 54, aR 55, aR 56, aR 57, aI hi, aI pc, aI ra, aI re, aR 58, aR 59, aR 60, aI fm, aI z, aR 61, aR 62, aR 63, aR 64, aR 65, aR 66, aI th])) 55 (eI 48 Sm)) (by funext j9; simp only [up]; (repeat' split) <;> first | rfl | (subst_vars; assumption) | (subst_vars; symm; assumption) | (exfalso; omega)) ?_
      exact lp32 _ z 0 Sm 0 (by omega) (by rfl) (by unfold winR; split <;> rfl) rfl
    · refine j_iconst (pc' := 20) dX12_winters_19 rfl ?_
      exact j_iret dX12_winters_20 rfl (jM_of (by unfold winA; rw [if_neg (by omega)]) hT)
