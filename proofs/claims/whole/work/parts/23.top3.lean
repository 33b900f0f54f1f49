def wntV (what k : Int) : Int := if what = 0 then k else 9 - k
def wntD (D : Int → Int → Int) (what k : Int) : Int → Int → Int := upD D 6 (if what = 0 then 2 else 1) (wntV what k)
def wntP (D : Int → Int → Int) (n what k : Int) : Bool := decide (hrd (wntD D what k) n 0 (wntD D what k 6 0) = 0)
def wntF (D : Int → Int → Int) (n what : Int) : Int := fstI (wntP D n what) 0 (if what = 0 then 6 else 10)
def wantA (D : Int → Int → Int) (n what : Int) : Int := if 0 ≤ what ∧ what ≤ 1 then (if wntF D n what = -4 then -4 else wntV what (wntF D n what)) else -1
theorem fstI_bd {P : Int → Bool} : ∀ (k : Nat) (a : Int), 0 ≤ a → fstI P a k = -4 ∨ (a ≤ fstI P a k ∧ fstI P a k < a + k)
  | 0, a, _ => Or.inl rfl
  | k + 1, a, h => by
    rw [fstI]
    split
    · omega
    · have := fstI_bd (P := P) k (a + 1) (by omega)
      omega
theorem want_y0 {D : Int → Int → Int} {n i : Int} (h0 : 0 ≤ i) (hw : wntF D n 0 = i) : wantA D n 0 = i := by
  unfold wantA; rw [if_pos (by omega), hw, if_neg (by omega)]; unfold wntV; rw [if_pos rfl]
theorem want_y1 {D : Int → Int → Int} {n i : Int} (h0 : 0 ≤ i) (hw : wntF D n 1 = i) : wantA D n 1 = 9 - i := by
  unfold wantA; rw [if_pos (by omega), hw, if_neg (by omega)]; unfold wntV; rw [if_neg (by omega)]
theorem want_n {D : Int → Int → Int} {n x : Int} (hx : 0 ≤ x ∧ x ≤ 1) (hw : wntF D n x = -4) : wantA D n x = -4 := by
  unfold wantA; rw [if_pos hx, if_pos hw]
theorem lst_bd {D : Int → Int → Int} {n s : Int} (hn : 0 ≤ n) : (lst D n s).1 = -4 ∨ (0 ≤ (lst D n s).1 ∧ (lst D n s).1 < n) := by
  have key : ∀ m : Nat, (lst D m s).1 = -4 ∨ (0 ≤ (lst D m s).1 ∧ (lst D m s).1 < m) := by
    intro m
    induction m with
    | zero => exact Or.inl rfl
    | succ m ih =>
      unfold lst at ih ⊢
      rw [show ((m + 1 : Nat) : Int) = (m : Int) + 1 by omega, foldI_s (by omega)]
      split
      · right; dsimp only; omega
      · omega
  have := key n.toNat
  rwa [Int.toNat_of_nonneg hn] at this
def mdR (n : Int) : Nat → (Int → Int → Int) → (Int → Int → Int) × Int
  | 0, D => (D, 0)
  | k + 1, D => if (lst D n 0).1 = -4 then (D, 0) else ((mdR n k (scwD D n (lst D n 0).1)).1, (mdR n k (scwD D n (lst D n 0).1)).2 + 1)
def mendsA (D : Int → Int → Int) (n what : Int) : Int := if 0 ≤ what ∧ what ≤ 1 then (if what = 1 then figs (mdR n 60 D).1 n else if (lst (mdR n 60 D).1 n 0).1 = -4 then (mdR n 60 D).2 else -4) else -1
theorem mdR_y {n t : Int} {D : Int → Int → Int} (ht : t < 60) (h : ¬ (lst D n 0).1 = -4) : mdR n (60 - t).toNat D = ((mdR n (60 - (t + 1)).toNat (scwD D n (lst D n 0).1)).1, (mdR n (60 - (t + 1)).toNat (scwD D n (lst D n 0).1)).2 + 1) := by
  rw [show (60 - t).toNat = (60 - (t + 1)).toNat + 1 by omega, mdR, if_neg h]
theorem mdR_n {n t : Int} {D : Int → Int → Int} (h : (lst D n 0).1 = -4) : mdR n (60 - t).toNat D = (D, 0) := by
  cases (60 - t).toNat with
  | zero => rfl
  | succ k => rw [mdR, if_pos h]
theorem mdR_z {n t : Int} {D : Int → Int → Int} (h : 60 ≤ t) : mdR n (60 - t).toNat D = (D, 0) := by
  rw [show (60 - t).toNat = 0 by omega]; rfl
def jdI (n : Int) (E : Int → Int) (so : Int) : Nat → Int → (Int → Int → Int) → Int
  | 0, _, _ => -4
  | k + 1, i, D => if ¬ E i = least so ∧ ¬ E i = hrd D n 0 (D 6 0) then i else jdI n E so k (i + 1) (endD D n)
def judgeA (D : Int → Int → Int) (n : Int) (sh E : Int → Int → Int) (d : Int) : Int := if rowR sh d = 0 then jdI n (E d) (sh 3 d) (sh 4 d).toNat 0 D else rowR sh d
theorem jdI_y {n so sz i : Int} {E : Int → Int} {D : Int → Int → Int} (hi : i < sz) (h : ¬ E i = least so ∧ ¬ E i = hrd D n 0 (D 6 0)) : jdI n E so (sz - i).toNat i D = i := by
  rw [show (sz - i).toNat = (sz - (i + 1)).toNat + 1 by omega, jdI, if_pos h]
theorem jdI_n {n so sz i : Int} {E : Int → Int} {D : Int → Int → Int} (hi : i < sz) (h : ¬ (¬ E i = least so ∧ ¬ E i = hrd D n 0 (D 6 0))) : jdI n E so (sz - i).toNat i D = jdI n E so (sz - (i + 1)).toNat (i + 1) (endD D n) := by
  rw [show (sz - i).toNat = (sz - (i + 1)).toNat + 1 by omega, jdI, if_neg h]
theorem jdI_z {n so sz i : Int} {E : Int → Int} {D : Int → Int → Int} (hi : sz ≤ i) : jdI n E so (sz - i).toNat i D = -4 := by
  rw [show (sz - i).toNat = 0 by omega]; rfl
def mcI (s h : Int) : Nat → Int → Int → Int → Int
  | 0, _, _, _ => -4
  | k + 1, n, a, m => if h * a ≤ 10 * (a - m) then n else mcI s h k (n + 1) (a * 10) (m * (10 - s))
def mechA (s h c what : Int) : Int := if (0 ≤ s ∧ s ≤ 9) ∧ (1 ≤ h ∧ h ≤ 9) ∧ (0 ≤ c ∧ c ≤ 99) ∧ (0 ≤ what ∧ what ≤ 1) then (if mcI s h 10 0 1 1 = -4 then -4 else if what = 0 then mcI s h 10 0 1 1 else mcI s h 10 0 1 1 * c) else -1
theorem mcI_y {s h n a m : Int} (hn : n < 10) (hh : h * a ≤ 10 * (a - m)) : mcI s h (10 - n).toNat n a m = n := by
  rw [show (10 - n).toNat = (10 - (n + 1)).toNat + 1 by omega, mcI, if_pos hh]
theorem mcI_n {s h n a m : Int} (hn : n < 10) (hh : ¬ h * a ≤ 10 * (a - m)) : mcI s h (10 - n).toNat n a m = mcI s h (10 - (n + 1)).toNat (n + 1) (a * 10) (m * (10 - s)) := by
  rw [show (10 - n).toNat = (10 - (n + 1)).toNat + 1 by omega, mcI, if_neg hh]
theorem mcI_z {s h n a m : Int} (hn : 10 ≤ n) : mcI s h (10 - n).toNat n a m = -4 := by
  rw [show (10 - n).toNat = 0 by omega]; rfl
theorem mc_bd {s h a m : Int} (hs : 0 ≤ s ∧ s ≤ 9) (hh : 1 ≤ h ∧ h ≤ 9) (ha : 1 ≤ a ∧ a ≤ 1000000000) (hm : 0 ≤ m ∧ m ≤ a) : (0 ≤ m * (10 - s) ∧ m * (10 - s) ≤ a * 10) ∧ (0 ≤ h * a ∧ h * a ≤ 9000000000) := by
  refine ⟨⟨Int.mul_nonneg hm.1 (by omega), ?_⟩, ⟨Int.mul_nonneg (by omega) (by omega), ?_⟩⟩
  · exact Int.mul_le_mul hm.2 (by omega) (by omega) (by omega)
  · have := Int.mul_le_mul hh.2 ha.2 (by omega) (by omega : (0 : Int) ≤ 9)
    omega
theorem lcI_lt {a b : Int} : lcI a b < 0 ↔ a < b := by unfold lcI; (repeat' split) <;> omega
theorem lcI_bd {a b : Int} : -1 ≤ lcI a b ∧ lcI a b ≤ 1 := by unfold lcI; (repeat' split) <;> omega
theorem pow10_le {e : Nat} (h : e ≤ 8) : (10 : Int) ^ e * 10 ≤ 1000000000 := by
  rcases (show e = 0 ∨ e = 1 ∨ e = 2 ∨ e = 3 ∨ e = 4 ∨ e = 5 ∨ e = 6 ∨ e = 7 ∨ e = 8 by omega) with rfl | rfl | rfl | rfl | rfl | rfl | rfl | rfl | rfl <;> decide
set_option maxRecDepth 100000 in
set_option maxHeartbeats 4000000 in
theorem c_Top_mends {l : Launch} {w : AW} {D Di : Int → Int → Int} {n mi hi ni mj : Int} {sh E : Int → Int → Int} {x : Int} (hW : Comp w D n mi hi Di ni mj sh E) (hB : CarOK D n mi) (hI : CarOK Di ni mj) (hhi : hi = 0 ∨ hi = 1) (hsh : ShOK sh E) (hx : inI x) : Call l m_Top_mends false 68 68 [aR 0, aI x] w (jC w (mendsA D n x) D n mi hi Di ni mj sh E) := by
  have hT := TS.rf hW
  obtain ⟨hO, hK, hC, ⟨Dt, nt, mt, hCt⟩, hCi, hS34, hSh, ⟨po, hPo⟩, ⟨di, hDi⟩⟩ := hW
  obtain ⟨hn, hD, hs0, hs1, hs2, hs3⟩ := id hB
  refine Call.of (L := [some (aR 0), some (aI x), none]) rfl (Nat.le_of_ble_eq_true rfl) rfl (fun G ad => ?_)
  refine j_iload_n (pc' := 1) (z := x) dX11_mends_0 rfl rfl ?_
  refine j_callS (pc' := 4) (as := [aI x]) (rest := []) dX11_mends_1 rfl s_Top_173 (c_isEither (by omega)) rfl rfl rfl (jdet (st' := [aB (0 ≤ x ∧ x ≤ 1)]) rfl ?_)
  refine j_ifb_ne (tgt := 9) (pc' := 7) dX11_mends_4 (by decide) rfl (fun h4 => ?_) (fun h4 => ?_)
  · refine j_aload_n (pc' := 10) (z := 0) dX11_mends_9 rfl rfl ?_
    refine j_get (pc' := 13) (v := aR 18) dX11_mends_10 rfl f_Top_46 (by omega) hO rfl ?_
    refine j_aload_n (pc' := 14) (z := 0) dX11_mends_13 rfl rfl ?_
    refine j_get (pc' := 17) (v := aR 10) dX11_mends_14 rfl f_Top_42 (by omega) hO rfl ?_
    refine j_callV (pc' := 20) (as := [aR 10]) (rest := []) dX11_mends_17 rfl s_Top_84 (c_Car_becomes hCt hC (by omega) (by omega) (by omega)) (by omega) hCt.1 rfl rfl rfl rfl (jdet (st' := []) rfl ?_)
    refine j_iconst (pc' := 21) dX11_mends_20 rfl ?_
    refine j_istore_n (pc' := 22) (L' := [some (aR 0), some (aI x), some (aI 0)]) dX11_mends_21 rfl (by decide) rfl ?_
    have lp22 : ∀ (k9 : Nat) (Dx : Int → Int → Int) (t : Int), (0 ≤ t ∧ t ≤ 60) → (CarOK Dx n mi) → (mdR n 60 D = ((mdR n (60 - t).toNat Dx).1, t + (mdR n (60 - t).toNat Dx).2)) → ((60 - t).toNat) = k9 → J l m_Top_mends ad G [] false (jZ ad G false 68 m_Top_mends.2.2.2.2.cells m_Top_mends.2.2.2.2.slots (jC w (mendsA D n x) D n mi hi Di ni mj sh E)) 68 0 0 22 [some (aR 0), some (aI x), some (aI t)] [] (carW w 18 Dx n mi) := by
      intro k9
      induction k9 using Nat.strongRecOn with
      | _ k9 ih22 =>
        intro Dx t hi hXB hv hk22
        refine j_iload_n (pc' := 23) (z := t) dX11_mends_22 rfl rfl ?_
        refine j_bipush (pc' := 25) dX11_mends_23 rfl (by decide) ?_
        refine j_icmp_ge (tgt := 63) (pc' := 28) dX11_mends_25 (by decide) rfl (by omega) (by omega) (fun h25 => ?_) (fun h25 => ?_)
        · refine j_iload_n (pc' := 64) (z := x) dX11_mends_63 rfl rfl ?_
          refine j_iconst (pc' := 65) dX11_mends_64 rfl ?_
          refine j_icmp_ne (tgt := 76) (pc' := 68) dX11_mends_65 (by decide) rfl (by omega) (by omega) (fun h65 => ?_) (fun h65 => ?_)
          · refine j_aload_n (pc' := 77) (z := 0) dX11_mends_76 rfl rfl ?_
            refine j_get (pc' := 80) (v := aR 18) dX11_mends_77 rfl f_Top_46 (by omega) ((carW_out (by omega)).trans hO) rfl ?_
            refine j_iconst (pc' := 81) dX11_mends_80 rfl ?_
            refine j_callV (pc' := 84) (as := [aI 0]) (rest := []) dX11_mends_81 rfl s_Top_170 (c_Car_loudestAt CarAt_carW hXB (carW_kinds hK (by omega)) (by omega) (by omega)) (by omega) CarAt_carW.1 rfl rfl rfl rfl (jdet (st' := [aI ((lst Dx n 0).1)]) rfl ?_)
            refine j_bipush (pc' := 86) dX11_mends_84 rfl (by decide) ?_
            have hlb := lst_bd (D := Dx) (s := 0) hn.1
            refine j_icmp_ne (tgt := 93) (pc' := 89) dX11_mends_86 (by decide) rfl (by omega) (by omega) (fun h86 => ?_) (fun h86 => ?_)
            · refine j_bipush (pc' := 95) dX11_mends_93 rfl (by decide) ?_
              exact j_iret dX11_mends_95 rfl (jC_of (by first | (exfalso; omega) | skip; have hz : mdR n 60 D = (Dx, t) := (by first | (rw [hv, mdR_z (by omega)]; simp) | (rw [hv, mdR_n (by omega)]; simp)); unfold mendsA; rw [if_pos (by omega), if_neg (by omega), hz]; dsimp only; first | rw [if_pos (by omega)] | rw [if_neg (by omega)]) hT.trial)
            · refine j_iload_n (pc' := 90) (z := t) dX11_mends_89 rfl rfl ?_
              refine j_goto (pc' := 95) dX11_mends_90 (by decide) ?_
              exact j_iret dX11_mends_95 rfl (jC_of (by first | (exfalso; omega) | skip; have hz : mdR n 60 D = (Dx, t) := (by first | (rw [hv, mdR_z (by omega)]; simp) | (rw [hv, mdR_n (by omega)]; simp)); unfold mendsA; rw [if_pos (by omega), if_neg (by omega), hz]; dsimp only; first | rw [if_pos (by omega)] | rw [if_neg (by omega)]) hT.trial)
          · refine j_aload_n (pc' := 69) (z := 0) dX11_mends_68 rfl rfl ?_
            refine j_get (pc' := 72) (v := aR 18) dX11_mends_69 rfl f_Top_46 (by omega) ((carW_out (by omega)).trans hO) rfl ?_
            refine j_callV (pc' := 75) (as := []) (rest := []) dX11_mends_72 rfl s_Top_281 (c_Car_allFigures CarAt_carW hXB (carW_kinds hK (by omega)) (by omega)) (by omega) CarAt_carW.1 rfl rfl rfl rfl (jdet (st' := [aI (figs Dx n)]) rfl ?_)
            exact j_iret dX11_mends_75 rfl (jC_of (by have hz : mdR n 60 D = (Dx, t) := (by first | (rw [hv, mdR_z (by omega)]; simp) | (rw [hv, mdR_n (by omega)]; simp)); unfold mendsA; rw [if_pos (by omega), if_pos (by omega), hz]) hT.trial)
        · refine j_aload_n (pc' := 29) (z := 0) dX11_mends_28 rfl rfl ?_
          refine j_get (pc' := 32) (v := aR 18) dX11_mends_29 rfl f_Top_46 (by omega) ((carW_out (by omega)).trans hO) rfl ?_
          refine j_iconst (pc' := 33) dX11_mends_32 rfl ?_
          refine j_callV (pc' := 36) (as := [aI 0]) (rest := []) dX11_mends_33 rfl s_Top_170 (c_Car_loudestAt CarAt_carW hXB (carW_kinds hK (by omega)) (by omega) (by omega)) (by omega) CarAt_carW.1 rfl rfl rfl rfl (jdet (st' := [aI ((lst Dx n 0).1)]) rfl ?_)
          refine j_bipush (pc' := 38) dX11_mends_36 rfl (by decide) ?_
          have hlb := lst_bd (D := Dx) (s := 0) hn.1
          refine j_icmp_eq (tgt := 63) (pc' := 41) dX11_mends_38 (by decide) rfl (by omega) (by omega) (fun h38 => ?_) (fun h38 => ?_)
          · refine j_iload_n (pc' := 64) (z := x) dX11_mends_63 rfl rfl ?_
            refine j_iconst (pc' := 65) dX11_mends_64 rfl ?_
            refine j_icmp_ne (tgt := 76) (pc' := 68) dX11_mends_65 (by decide) rfl (by omega) (by omega) (fun h65 => ?_) (fun h65 => ?_)
            · refine j_aload_n (pc' := 77) (z := 0) dX11_mends_76 rfl rfl ?_
              refine j_get (pc' := 80) (v := aR 18) dX11_mends_77 rfl f_Top_46 (by omega) ((carW_out (by omega)).trans hO) rfl ?_
              refine j_iconst (pc' := 81) dX11_mends_80 rfl ?_
              refine j_callV (pc' := 84) (as := [aI 0]) (rest := []) dX11_mends_81 rfl s_Top_170 (c_Car_loudestAt CarAt_carW hXB (carW_kinds hK (by omega)) (by omega) (by omega)) (by omega) CarAt_carW.1 rfl rfl rfl rfl (jdet (st' := [aI ((lst Dx n 0).1)]) rfl ?_)
              refine j_bipush (pc' := 86) dX11_mends_84 rfl (by decide) ?_
              have hlb := lst_bd (D := Dx) (s := 0) hn.1
              refine j_icmp_ne (tgt := 93) (pc' := 89) dX11_mends_86 (by decide) rfl (by omega) (by omega) (fun h86 => ?_) (fun h86 => ?_)
              · refine j_bipush (pc' := 95) dX11_mends_93 rfl (by decide) ?_
                exact j_iret dX11_mends_95 rfl (jC_of (by first | (exfalso; omega) | skip; have hz : mdR n 60 D = (Dx, t) := (by first | (rw [hv, mdR_z (by omega)]; simp) | (rw [hv, mdR_n (by omega)]; simp)); unfold mendsA; rw [if_pos (by omega), if_neg (by omega), hz]; dsimp only; first | rw [if_pos (by omega)] | rw [if_neg (by omega)]) hT.trial)
              · refine j_iload_n (pc' := 90) (z := t) dX11_mends_89 rfl rfl ?_
                refine j_goto (pc' := 95) dX11_mends_90 (by decide) ?_
                exact j_iret dX11_mends_95 rfl (jC_of (by first | (exfalso; omega) | skip; have hz : mdR n 60 D = (Dx, t) := (by first | (rw [hv, mdR_z (by omega)]; simp) | (rw [hv, mdR_n (by omega)]; simp)); unfold mendsA; rw [if_pos (by omega), if_neg (by omega), hz]; dsimp only; first | rw [if_pos (by omega)] | rw [if_neg (by omega)]) hT.trial)
            · refine j_aload_n (pc' := 69) (z := 0) dX11_mends_68 rfl rfl ?_
              refine j_get (pc' := 72) (v := aR 18) dX11_mends_69 rfl f_Top_46 (by omega) ((carW_out (by omega)).trans hO) rfl ?_
              refine j_callV (pc' := 75) (as := []) (rest := []) dX11_mends_72 rfl s_Top_281 (c_Car_allFigures CarAt_carW hXB (carW_kinds hK (by omega)) (by omega)) (by omega) CarAt_carW.1 rfl rfl rfl rfl (jdet (st' := [aI (figs Dx n)]) rfl ?_)
              exact j_iret dX11_mends_75 rfl (jC_of (by have hz : mdR n 60 D = (Dx, t) := (by first | (rw [hv, mdR_z (by omega)]; simp) | (rw [hv, mdR_n (by omega)]; simp)); unfold mendsA; rw [if_pos (by omega), if_pos (by omega), hz]) hT.trial)
          · refine j_aload_n (pc' := 42) (z := 0) dX11_mends_41 rfl rfl ?_
            refine j_get (pc' := 45) (v := aR 18) dX11_mends_42 rfl f_Top_46 (by omega) ((carW_out (by omega)).trans hO) rfl ?_
            refine j_aload_n (pc' := 46) (z := 0) dX11_mends_45 rfl rfl ?_
            refine j_get (pc' := 49) (v := aR 18) dX11_mends_46 rfl f_Top_46 (by omega) ((carW_out (by omega)).trans hO) rfl ?_
            refine j_iconst (pc' := 50) dX11_mends_49 rfl ?_
            refine j_callV (pc' := 53) (as := [aI 0]) (rest := [aR 18]) dX11_mends_50 rfl s_Top_170 (c_Car_loudestAt CarAt_carW hXB (carW_kinds hK (by omega)) (by omega) (by omega)) (by omega) CarAt_carW.1 rfl rfl rfl rfl (jdet (st' := [aI ((lst Dx n 0).1), aR 18]) rfl ?_)
            refine j_callV (pc' := 56) (as := [aI ((lst Dx n 0).1)]) (rest := []) dX11_mends_53 rfl s_Top_151 (c_Car_screw CarAt_carW hXB (carW_kinds hK (by omega)) (by omega) (by omega)) (by omega) CarAt_carW.1 rfl rfl rfl rfl (jdet (st' := [aI (scrR Dx n ((lst Dx n 0).1))]) rfl ?_)
            refine j_w (w' := carW w 18 (scwD Dx n ((lst Dx n 0).1)) n mi) carW_carW ?_
            refine j_pop (pc' := 57) dX11_mends_56 rfl rfl ?_
            refine j_iinc (pc' := 60) (z := t) (L' := [some (aR 0), some (aI x), some (aI (t + 1))]) dX11_mends_57 rfl (by decide) rfl rfl rfl ?_
            refine j_goto (pc' := 22) dX11_mends_60 (by decide) ?_
            exact ih22 _ (by omega) (scwD Dx n ((lst Dx n 0).1)) (t + 1) (by omega) (by exact hXB.scw) (by rw [hv, mdR_y (by omega) h38]; simp only [Prod.mk.injEq, true_and]; omega) rfl
    exact lp22 _ D 0 (by omega) (by exact hB) (by simp) rfl
  · refine j_iconst (pc' := 8) dX11_mends_7 rfl ?_
    exact j_iret dX11_mends_8 rfl (jC_of (by unfold mendsA; (repeat' split) <;> first | rfl | omega) hT)
set_option maxRecDepth 100000 in
set_option maxHeartbeats 4000000 in
theorem c_Top_judge {l : Launch} {w : AW} {D Di : Int → Int → Int} {n mi hi ni mj : Int} {sh E : Int → Int → Int} {d : Int} (hW : Comp w D n mi hi Di ni mj sh E) (hB : CarOK D n mi) (hI : CarOK Di ni mj) (hhi : hi = 0 ∨ hi = 1) (hsh : ShOK sh E) (hwd : WdOK D) (hd : inI d) : Call l m_Top_judge false 68 68 [aR 0, aI d] w (jC w (judgeA D n sh E d) D n mi hi Di ni mj sh E) := by
  have hT := TS.rf hW
  obtain ⟨hO, hK, hC, ⟨Dt, nt, mt, hCt⟩, hCi, hS34, hSh, ⟨po, hPo⟩, ⟨di, hDi⟩⟩ := hW
  obtain ⟨hn, hD, hs0, hs1, hs2, hs3⟩ := id hB
  refine Call.of (L := [some (aR 0), some (aI d), none, none, none]) rfl (Nat.le_of_ble_eq_true rfl) rfl (fun G ad => ?_)
  refine j_aload_n (pc' := 1) (z := 0) dX11_judge_0 rfl rfl ?_
  refine j_iload_n (pc' := 2) (z := d) dX11_judge_1 rfl rfl ?_
  refine j_callV (pc' := 5) (as := [aI d]) (rest := []) dX11_judge_2 rfl s_Top_70 (c_Top_rowRefusal hT.1 hsh (by omega)) (by omega) hO rfl rfl rfl rfl (jdet (st' := [aI (rowR sh d)]) rfl ?_)
  refine j_istore_n (pc' := 6) (L' := [some (aR 0), some (aI d), some (aI (rowR sh d)), none, none]) dX11_judge_5 rfl (by decide) rfl ?_
  refine j_iload_n (pc' := 7) (z := (rowR sh d)) dX11_judge_6 rfl rfl ?_
  have hrb := rowR_bd (sh := sh) (d := d)
  refine j_if_eq (tgt := 12) (pc' := 10) dX11_judge_7 (by decide) rfl (by omega) (fun h7 => ?_) (fun h7 => ?_)
  · obtain ⟨hd7, hct⟩ := rowR_0 h7
    obtain ⟨q1, q2, q3, q4, q5, q6⟩ := id (hsh d hd7)
    refine j_aload_n (pc' := 13) (z := 0) dX11_judge_12 rfl rfl ?_
    refine j_get (pc' := 16) (v := aR 34) dX11_judge_13 rfl f_Top_58 (by omega) hO rfl ?_
    refine j_iload_n (pc' := 17) (z := d) dX11_judge_16 rfl rfl ?_
    refine j_aald (pc' := 18) (r := (35 + 2 * (d).toNat)) (Cn := "RattleAtFifty$Shelf") dX11_judge_17 rfl (by omega) hS34 rfl (by omega) (by decide) rfl ?_
    refine j_astore_n (pc' := 19) (L' := [some (aR 0), some (aI d), some (aI (rowR sh d)), some (aR (35 + 2 * (d).toNat)), none]) dX11_judge_18 rfl (by decide) rfl ?_
    refine j_aload_n (pc' := 20) (z := 0) dX11_judge_19 rfl rfl ?_
    refine j_get (pc' := 23) (v := aR 18) dX11_judge_20 rfl f_Top_46 (by omega) hO rfl ?_
    refine j_aload_n (pc' := 24) (z := 0) dX11_judge_23 rfl rfl ?_
    refine j_get (pc' := 27) (v := aR 10) dX11_judge_24 rfl f_Top_42 (by omega) hO rfl ?_
    refine j_callV (pc' := 30) (as := [aR 10]) (rest := []) dX11_judge_27 rfl s_Top_84 (c_Car_becomes hCt hC (by omega) (by omega) (by omega)) (by omega) hCt.1 rfl rfl rfl rfl (jdet (st' := []) rfl ?_)
    refine j_iconst (pc' := 31) dX11_judge_30 rfl ?_
    refine j_istore (pc' := 33) (L' := [some (aR 0), some (aI d), some (aI (rowR sh d)), some (aR (35 + 2 * (d).toNat)), some (aI 0)]) dX11_judge_31 rfl (by decide) rfl ?_
    have lp33 : ∀ (k9 : Nat) (Dx : Int → Int → Int) (i : Int), (0 ≤ i ∧ i ≤ sh 4 d) → (CarOK Dx n mi) → (WdOK Dx) → (judgeA D n sh E d = jdI n (E d) (sh 3 d) (sh 4 d - i).toNat i Dx) → ((sh 4 d - i).toNat) = k9 → J l m_Top_judge ad G [] false (jZ ad G false 68 m_Top_judge.2.2.2.2.cells m_Top_judge.2.2.2.2.slots (jC w (judgeA D n sh E d) D n mi hi Di ni mj sh E)) 68 0 0 33 [some (aR 0), some (aI d), some (aI (rowR sh d)), some (aR (35 + 2 * (d).toNat)), some (aI i)] [] (carW w 18 Dx n mi) := by
      intro k9
      induction k9 using Nat.strongRecOn with
      | _ k9 ih33 =>
        intro Dx i hi hXB hXW hv hk33
        refine j_iload (pc' := 35) (z := i) dX11_judge_33 rfl rfl ?_
        refine j_aload_n (pc' := 36) (z := (35 + 2 * (d).toNat)) dX11_judge_35 rfl rfl ?_
        refine j_get (pc' := 39) (v := aI (sh 4 d)) dX11_judge_36 rfl f_Top_259 (by omega) ((carW_out (by omega)).trans (hSh d (by omega)).1) rfl ?_
        refine j_icmp_ge (tgt := 85) (pc' := 42) dX11_judge_39 (by decide) rfl (by omega) (by omega) (fun h39 => ?_) (fun h39 => ?_)
        · refine j_bipush (pc' := 87) dX11_judge_85 rfl (by decide) ?_
          exact j_iret dX11_judge_87 rfl (jC_of (by rw [hv, jdI_z (by omega)]) hT.trial)
        · refine j_aload_n (pc' := 43) (z := (35 + 2 * (d).toNat)) dX11_judge_42 rfl rfl ?_
          refine j_iload (pc' := 45) (z := i) dX11_judge_43 rfl rfl ?_
          refine j_callV (pc' := 48) (as := [aI i]) (rest := []) dX11_judge_45 rfl s_Top_293 (c_Shelf_skips (carW_shelf (hSh d (by omega)) (by omega)) (hsh d (by omega)) (by omega) (by omega)) (by omega) ((carW_out (by omega)).trans (hSh d (by omega)).1) rfl rfl rfl rfl (jdet (st' := [aB ((0 ≤ i ∧ i < sh 4 d) ∧ E d i = least (sh 3 d))]) rfl ?_)
          refine j_ifb_ne (tgt := 72) (pc' := 51) dX11_judge_48 (by decide) rfl (fun h48 => ?_) (fun h48 => ?_)
          · refine j_aload_n (pc' := 73) (z := 0) dX11_judge_72 rfl rfl ?_
            refine j_get (pc' := 76) (v := aR 18) dX11_judge_73 rfl f_Top_46 (by omega) ((carW_out (by omega)).trans hO) rfl ?_
            refine j_callV (pc' := 79) (as := []) (rest := []) dX11_judge_76 rfl s_Top_296 (c_Car_endDrive CarAt_carW hXB (carW_kinds hK (by omega)) (by omega)) (by omega) CarAt_carW.1 rfl rfl rfl rfl (jdet (st' := []) rfl ?_)
            refine j_w (w' := carW w 18 (endD Dx n) n mi) carW_carW ?_
            refine j_iinc (pc' := 82) (z := i) (L' := [some (aR 0), some (aI d), some (aI (rowR sh d)), some (aR (35 + 2 * (d).toNat)), some (aI (i + 1))]) dX11_judge_79 rfl (by decide) rfl rfl rfl ?_
            refine j_goto (pc' := 33) dX11_judge_82 (by decide) ?_
            exact ih33 _ (by omega) (endD Dx n) (i + 1) (by omega) (by exact hXB.end hXW) (by exact hXW.end) (by rw [hv, jdI_n (by omega) (by omega)]) rfl
          · refine j_aload_n (pc' := 52) (z := (35 + 2 * (d).toNat)) dX11_judge_51 rfl rfl ?_
            refine j_get (pc' := 55) (v := aR (35 + 2 * (d).toNat + 1)) dX11_judge_52 rfl f_Top_262 (by omega) ((carW_out (by omega)).trans (hSh d (by omega)).1) rfl ?_
            refine j_iload (pc' := 57) (z := i) dX11_judge_55 rfl rfl ?_
            refine j_iald (pc' := 58) dX11_judge_57 rfl (by omega) ((carW_out (by omega)).trans (hSh d (by omega)).2) (by omega) (by decide) ?_
            refine j_aload_n (pc' := 59) (z := 0) dX11_judge_58 rfl rfl ?_
            refine j_get (pc' := 62) (v := aR 18) dX11_judge_59 rfl f_Top_46 (by omega) ((carW_out (by omega)).trans hO) rfl ?_
            refine j_iconst (pc' := 63) dX11_judge_62 rfl ?_
            refine j_callV (pc' := 66) (as := [aI 0]) (rest := [aI (E d i)]) dX11_judge_63 rfl s_Top_158 (c_Car_heardNow CarAt_carW hXB (carW_kinds hK (by omega)) (by omega) (by omega)) (by omega) CarAt_carW.1 rfl rfl rfl rfl (jdet (st' := [aI (hrd Dx n 0 (Dx 6 0)), aI (E d i)]) rfl ?_)
            have hhb := hrd_bd (seat := 0) (pace := Dx 6 0) hXB
            have hEi := q6 i (by omega) (by omega)
            refine j_icmp_eq (tgt := 72) (pc' := 69) dX11_judge_66 (by decide) rfl (by omega) (by omega) (fun h66 => ?_) (fun h66 => ?_)
            · refine j_aload_n (pc' := 73) (z := 0) dX11_judge_72 rfl rfl ?_
              refine j_get (pc' := 76) (v := aR 18) dX11_judge_73 rfl f_Top_46 (by omega) ((carW_out (by omega)).trans hO) rfl ?_
              refine j_callV (pc' := 79) (as := []) (rest := []) dX11_judge_76 rfl s_Top_296 (c_Car_endDrive CarAt_carW hXB (carW_kinds hK (by omega)) (by omega)) (by omega) CarAt_carW.1 rfl rfl rfl rfl (jdet (st' := []) rfl ?_)
              refine j_w (w' := carW w 18 (endD Dx n) n mi) carW_carW ?_
              refine j_iinc (pc' := 82) (z := i) (L' := [some (aR 0), some (aI d), some (aI (rowR sh d)), some (aR (35 + 2 * (d).toNat)), some (aI (i + 1))]) dX11_judge_79 rfl (by decide) rfl rfl rfl ?_
              refine j_goto (pc' := 33) dX11_judge_82 (by decide) ?_
              exact ih33 _ (by omega) (endD Dx n) (i + 1) (by omega) (by exact hXB.end hXW) (by exact hXW.end) (by rw [hv, jdI_n (by omega) (by omega)]) rfl
            · refine j_iload (pc' := 71) (z := i) dX11_judge_69 rfl rfl ?_
              exact j_iret dX11_judge_71 rfl (jC_of (by rw [hv, jdI_y (by omega) (by omega)]) hT.trial)
    exact lp33 _ D 0 (by omega) (by exact hB) (by exact hwd) (by unfold judgeA; rw [if_pos h7, Int.sub_zero]) rfl
  · refine j_iload_n (pc' := 11) (z := (rowR sh d)) dX11_judge_10 rfl rfl ?_
    exact j_iret dX11_judge_11 rfl (jC_of (by unfold judgeA; rw [if_neg h7]) hT)
set_option maxRecDepth 100000 in
set_option maxHeartbeats 4000000 in
theorem c_Top_mechanic {l : Launch} {w : AW} {D Di : Int → Int → Int} {n mi hi ni mj : Int} {sh E : Int → Int → Int} {s h c x : Int} (hW : Comp w D n mi hi Di ni mj sh E) (hB : CarOK D n mi) (hI : CarOK Di ni mj) (hhi : hi = 0 ∨ hi = 1) (hsh : ShOK sh E) (hs : inI s) (hh : inI h) (hc : inI c) (hx : inI x) : Call l m_Top_mechanic false 68 68 [aR 0, aI s, aI h, aI c, aI x] w (jC w (mechA s h c x) D n mi hi Di ni mj sh E) := by
  have hT := TS.rf hW
  obtain ⟨hO, hK, hC, ⟨Dt, nt, mt, hCt⟩, hCi, hS34, hSh, ⟨po, hPo⟩, ⟨di, hDi⟩⟩ := hW
  obtain ⟨hn, hD, hs0, hs1, hs2, hs3⟩ := id hB
  refine Call.of (L := [some (aR 0), some (aI s), some (aI h), some (aI c), some (aI x), none, none, none, none, none]) rfl (Nat.le_of_ble_eq_true rfl) rfl (fun G ad => ?_)
  refine j_iload_n (pc' := 1) (z := s) dX11_mechanic_0 rfl rfl ?_
  refine j_iconst (pc' := 2) dX11_mechanic_1 rfl ?_
  refine j_bipush (pc' := 4) dX11_mechanic_2 rfl (by decide) ?_
  refine j_callS (pc' := 7) (as := [aI s, aI 0, aI 9]) (rest := []) dX11_mechanic_4 rfl s_Top_126 (c_within (by omega) (by omega) (by omega)) rfl rfl rfl (jdet (st' := [aB (0 ≤ s ∧ s ≤ 9)]) rfl ?_)
  refine j_ifb_eq (tgt := 38) (pc' := 10) dX11_mechanic_7 (by decide) rfl (fun h7 => ?_) (fun h7 => ?_)
  · refine j_iconst (pc' := 39) dX11_mechanic_38 rfl ?_
    exact j_iret dX11_mechanic_39 rfl (jC_of (by unfold mechA; rw [if_neg (by omega)]) hT)
  · refine j_iload_n (pc' := 11) (z := h) dX11_mechanic_10 rfl rfl ?_
    refine j_iconst (pc' := 12) dX11_mechanic_11 rfl ?_
    refine j_bipush (pc' := 14) dX11_mechanic_12 rfl (by decide) ?_
    refine j_callS (pc' := 17) (as := [aI h, aI 1, aI 9]) (rest := []) dX11_mechanic_14 rfl s_Top_126 (c_within (by omega) (by omega) (by omega)) rfl rfl rfl (jdet (st' := [aB (1 ≤ h ∧ h ≤ 9)]) rfl ?_)
    refine j_ifb_eq (tgt := 38) (pc' := 20) dX11_mechanic_17 (by decide) rfl (fun h17 => ?_) (fun h17 => ?_)
    · refine j_iconst (pc' := 39) dX11_mechanic_38 rfl ?_
      exact j_iret dX11_mechanic_39 rfl (jC_of (by unfold mechA; rw [if_neg (by omega)]) hT)
    · refine j_iload_n (pc' := 21) (z := c) dX11_mechanic_20 rfl rfl ?_
      refine j_iconst (pc' := 22) dX11_mechanic_21 rfl ?_
      refine j_bipush (pc' := 24) dX11_mechanic_22 rfl (by decide) ?_
      refine j_callS (pc' := 27) (as := [aI c, aI 0, aI 99]) (rest := []) dX11_mechanic_24 rfl s_Top_126 (c_within (by omega) (by omega) (by omega)) rfl rfl rfl (jdet (st' := [aB (0 ≤ c ∧ c ≤ 99)]) rfl ?_)
      refine j_ifb_eq (tgt := 38) (pc' := 30) dX11_mechanic_27 (by decide) rfl (fun h27 => ?_) (fun h27 => ?_)
      · refine j_iconst (pc' := 39) dX11_mechanic_38 rfl ?_
        exact j_iret dX11_mechanic_39 rfl (jC_of (by unfold mechA; rw [if_neg (by omega)]) hT)
      · refine j_iload (pc' := 32) (z := x) dX11_mechanic_30 rfl rfl ?_
        refine j_callS (pc' := 35) (as := [aI x]) (rest := []) dX11_mechanic_32 rfl s_Top_173 (c_isEither (by omega)) rfl rfl rfl (jdet (st' := [aB (0 ≤ x ∧ x ≤ 1)]) rfl ?_)
        refine j_ifb_ne (tgt := 40) (pc' := 38) dX11_mechanic_35 (by decide) rfl (fun h35 => ?_) (fun h35 => ?_)
        · refine j_lconst (pc' := 41) (z := 1) dX11_mechanic_40 rfl rfl ?_
          refine j_lstore (pc' := 43) (L' := [some (aR 0), some (aI s), some (aI h), some (aI c), some (aI x), some (aL 1), none, none, none, none]) dX11_mechanic_41 rfl (by decide) rfl ?_
          refine j_lconst (pc' := 44) (z := 1) dX11_mechanic_43 rfl rfl ?_
          refine j_lstore (pc' := 46) (L' := [some (aR 0), some (aI s), some (aI h), some (aI c), some (aI x), some (aL 1), none, some (aL 1), none, none]) dX11_mechanic_44 rfl (by decide) rfl ?_
          refine j_iconst (pc' := 47) dX11_mechanic_46 rfl ?_
          refine j_istore (pc' := 49) (L' := [some (aR 0), some (aI s), some (aI h), some (aI c), some (aI x), some (aL 1), none, some (aL 1), none, some (aI 0)]) dX11_mechanic_47 rfl (by decide) rfl ?_
          have lp49 : ∀ (k9 : Nat) (a : Int) (m : Int) (i : Int) (e : Nat), (0 ≤ i ∧ i ≤ 10) → (a = 10 ^ e) → ((e : Int) = i) → (1 ≤ a ∧ (i ≤ 9 → a ≤ 1000000000)) → (0 ≤ m ∧ m ≤ a) → (mcI s h 10 0 1 1 = mcI s h (10 - i).toNat i a m) → ((10 - i).toNat) = k9 → J l m_Top_mechanic ad G [] false (jZ ad G false 68 m_Top_mechanic.2.2.2.2.cells m_Top_mechanic.2.2.2.2.slots (jC w (mechA s h c x) D n mi hi Di ni mj sh E)) 68 0 0 49 [some (aR 0), some (aI s), some (aI h), some (aI c), some (aI x), some (aL a), none, some (aL m), none, some (aI i)] [] w := by
            intro k9
            induction k9 using Nat.strongRecOn with
            | _ k9 ih49 =>
              intro a m i e hi hae hei ham hmb hv hk49
              refine j_iload (pc' := 51) (z := i) dX11_mechanic_49 rfl rfl ?_
              refine j_bipush (pc' := 53) dX11_mechanic_51 rfl (by decide) ?_
              refine j_icmp_gt (tgt := 113) (pc' := 56) dX11_mechanic_53 (by decide) rfl (by omega) (by omega) (fun h53 => ?_) (fun h53 => ?_)
              · refine j_bipush (pc' := 115) dX11_mechanic_113 rfl (by decide) ?_
                exact j_iret dX11_mechanic_115 rfl (jC_of (by unfold mechA; rw [if_pos (by omega), hv, mcI_z (by omega), if_pos rfl]) hT)
              · refine j_ldc2 (pc' := 59) (n := 10) dX11_mechanic_56 rfl k_Top_284 (by decide) ?_
                refine j_lload (pc' := 61) (z := a) dX11_mechanic_59 rfl rfl ?_
                refine j_lload (pc' := 63) (z := m) dX11_mechanic_61 rfl rfl ?_
                refine j_lsub (pc' := 64) dX11_mechanic_63 rfl ?_
                refine j_lmul (pc' := 65) dX11_mechanic_64 rfl ?_
                refine j_iload_n (pc' := 66) (z := h) dX11_mechanic_65 rfl rfl ?_
                have hbd := mc_bd (s := s) (h := h) (a := a) (m := m) (by omega) (by omega) (by omega) (by omega)
                refine j_i2l (pc' := 67) dX11_mechanic_66 rfl (by omega) ?_
                refine j_lload (pc' := 69) (z := a) dX11_mechanic_67 rfl rfl ?_
                refine j_lmul (pc' := 70) dX11_mechanic_69 rfl ?_
                refine j_lcmp (pc' := 71) dX11_mechanic_70 rfl (by omega) (by omega) ?_
                have hlb := lcI_bd (a := 10 * (a - m)) (b := h * a)
                refine j_if_lt (tgt := 89) (pc' := 74) dX11_mechanic_71 (by decide) rfl (by omega) (fun h71 => ?_) (fun h71 => ?_)
                · refine j_lload (pc' := 91) (z := a) dX11_mechanic_89 rfl rfl ?_
                  refine j_ldc2 (pc' := 94) (n := 10) dX11_mechanic_91 rfl k_Top_284 (by decide) ?_
                  refine j_lmul (pc' := 95) dX11_mechanic_94 rfl ?_
                  refine j_lstore (pc' := 97) (L' := [some (aR 0), some (aI s), some (aI h), some (aI c), some (aI x), some (aL (a * 10)), none, some (aL m), none, some (aI i)]) dX11_mechanic_95 rfl (by decide) rfl ?_
                  refine j_lload (pc' := 99) (z := m) dX11_mechanic_97 rfl rfl ?_
                  refine j_bipush (pc' := 101) dX11_mechanic_99 rfl (by decide) ?_
                  refine j_iload_n (pc' := 102) (z := s) dX11_mechanic_101 rfl rfl ?_
                  refine j_isub (pc' := 103) dX11_mechanic_102 rfl ?_
                  refine j_i2l (pc' := 104) dX11_mechanic_103 rfl (by omega) ?_
                  refine j_lmul (pc' := 105) dX11_mechanic_104 rfl ?_
                  refine j_lstore (pc' := 107) (L' := [some (aR 0), some (aI s), some (aI h), some (aI c), some (aI x), some (aL (a * 10)), none, some (aL (m * (10 - s))), none, some (aI i)]) dX11_mechanic_105 rfl (by decide) rfl ?_
                  refine j_iinc (pc' := 110) (z := i) (L' := [some (aR 0), some (aI s), some (aI h), some (aI c), some (aI x), some (aL (a * 10)), none, some (aL (m * (10 - s))), none, some (aI (i + 1))]) dX11_mechanic_107 rfl (by decide) rfl rfl rfl ?_
                  refine j_goto (pc' := 49) dX11_mechanic_110 (by decide) ?_
                  exact ih49 _ (by omega) (a * 10) (m * (10 - s)) (i + 1) (e + 1) (by omega) (by rw [hae, Int.pow_succ]) (by omega) (by refine ⟨by omega, fun h9 => ?_⟩; have := pow10_le (e := e) (by omega); rw [hae]; omega) (by omega) (by rw [hv, mcI_n (by omega) (by have := lcI_lt (a := 10 * (a - m)) (b := h * a); omega)]) rfl
                · refine j_iload (pc' := 76) (z := x) dX11_mechanic_74 rfl rfl ?_
                  refine j_if_ne (tgt := 84) (pc' := 79) dX11_mechanic_76 (by decide) rfl (by omega) (fun h76 => ?_) (fun h76 => ?_)
                  · refine j_iload (pc' := 86) (z := i) dX11_mechanic_84 rfl rfl ?_
                    refine j_iload_n (pc' := 87) (z := c) dX11_mechanic_86 rfl rfl ?_
                    refine j_imul (pc' := 88) dX11_mechanic_87 rfl ?_
                    exact j_iret dX11_mechanic_88 rfl (jC_of (by have hz : mcI s h 10 0 1 1 = i := (by rw [hv, mcI_y (by omega) (by have := lcI_lt (a := 10 * (a - m)) (b := h * a); omega)]); unfold mechA; rw [if_pos (by omega), hz, if_neg (by omega)]; (first | rw [if_pos (by omega)] | rw [if_neg (by omega)])) hT)
                  · refine j_iload (pc' := 81) (z := i) dX11_mechanic_79 rfl rfl ?_
                    refine j_goto (pc' := 88) dX11_mechanic_81 (by decide) ?_
                    exact j_iret dX11_mechanic_88 rfl (jC_of (by have hz : mcI s h 10 0 1 1 = i := (by rw [hv, mcI_y (by omega) (by have := lcI_lt (a := 10 * (a - m)) (b := h * a); omega)]); unfold mechA; rw [if_pos (by omega), hz, if_neg (by omega)]; (first | rw [if_pos (by omega)] | rw [if_neg (by omega)])) hT)
          exact lp49 _ 1 1 0 0 (by omega) (by rfl) (by rfl) (by omega) (by omega) (by rfl) rfl
        · refine j_iconst (pc' := 39) dX11_mechanic_38 rfl ?_
          exact j_iret dX11_mechanic_39 rfl (jC_of (by unfold mechA; rw [if_neg (by omega)]) hT)
