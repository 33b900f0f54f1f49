theorem upi_upi {f : Int → Int} {k x y : Int} : upi (upi f k x) k y = upi f k y := by funext j; unfold upi; split <;> rfl
-- ===== the text of a road, as the reference reads it =====
def TX (el E : Int → Int) (ra re : Int) : Prop := (∀ i, 0 ≤ i ∧ i < 100 → el (ra + i) = E i ∧ -128 ≤ E i ∧ E i ≤ 127) ∧ (0 ≤ ra ∧ ra ≤ 700) ∧ 0 ≤ re ∧ re ≤ 100
def herV (E : Int → Int) (re a : Int) : Int := if a < re then E a % 256 else -1
def digP (E : Int → Int) (re i : Int) : Prop := i < re ∧ 48 ≤ E i ∧ E i ≤ 57
def rdp (E : Int → Int) (re : Int) : Nat → Int → Int
  | 0, i => i
  | m + 1, i => if i < re ∧ (48 ≤ E i ∧ E i ≤ 57) then rdp E re m (i + 1) else i
theorem rdp_y {E : Int → Int} {re i : Int} {m : Nat} (h : i < re ∧ (48 ≤ E i ∧ E i ≤ 57)) : rdp E re (m + 1) i = rdp E re m (i + 1) := by rw [rdp, if_pos h]
theorem rdp_n {E : Int → Int} {re i : Int} {m : Nat} (h : ¬ (i < re ∧ (48 ≤ E i ∧ E i ≤ 57))) : rdp E re (m + 1) i = i := by rw [rdp, if_neg h]
theorem rdp_bd {E : Int → Int} {re : Int} : ∀ (m : Nat) (i : Int), i ≤ rdp E re m i ∧ rdp E re m i ≤ i + m
  | 0, i => by unfold rdp; omega
  | m + 1, i => by
    rw [rdp]
    split
    · have := rdp_bd (E := E) (re := re) m (i + 1); omega
    · omega
theorem sfr_rdp {E : Int → Int} {re : Int} : ∀ (m : Nat) (i : Int), sfr E re m i = if rdp E re m i = i + m then (if i + m < re ∧ E (i + m) = 59 then -1 else i + m) else rdp E re m i
  | 0, i => by
    rw [show rdp E re 0 i = i from rfl, show i + ((0 : Nat) : Int) = i by omega, if_pos rfl]; rfl
  | m + 1, i => by
    by_cases h : i < re ∧ (48 ≤ E i ∧ E i ≤ 57)
    · rw [sfr_sy h, rdp_y h, sfr_rdp m (i + 1), show i + 1 + (m : Int) = i + ((m + 1 : Nat) : Int) by omega]
    · rw [sfr_sn h, rdp_n h, if_neg (by omega)]
theorem her_bd {E : Int → Int} {re a : Int} : -1 ≤ herV E re a ∧ herV E re a ≤ 255 := by unfold herV; split <;> omega
theorem her_c {E : Int → Int} {re a c : Int} (h : a < re → -128 ≤ E a ∧ E a ≤ 127) (hc : 0 ≤ c ∧ c ≤ 127) : herV E re a = c ↔ a < re ∧ E a = c := by
  unfold herV
  split
  · rename_i h1
    have := h h1
    constructor
    · intro q; exact ⟨h1, by omega⟩
    · intro q; omega
  · constructor
    · intro q; omega
    · intro q; omega
theorem her_d {E : Int → Int} {re a : Int} (h : a < re → -128 ≤ E a ∧ E a ≤ 127) : (48 ≤ herV E re a ∧ herV E re a ≤ 57) ↔ (a < re ∧ (48 ≤ E a ∧ E a ≤ 57)) := by
  unfold herV
  split
  · rename_i h1
    have := h h1
    constructor
    · intro q; exact ⟨h1, by omega⟩
    · intro q; omega
  · constructor
    · intro q; omega
    · intro q; omega
theorem her_e {E : Int → Int} {re a : Int} (h : a < re ∧ (48 ≤ E a ∧ E a ≤ 57)) : herV E re a = E a := by unfold herV; rw [if_pos h.1]; omega
set_option maxRecDepth 100000 in
set_option maxHeartbeats 4000000 in
theorem c_Mod_here {l : Launch} {w : AW} {el E : Int → Int} {hi a ra re fm se th : Int} (hO : w 53 = mOb hi a ra re fm se th) (hel : w 66 = eI 800 el) (hX : TX el E ra re) (ha : 0 ≤ a ∧ a ≤ 1000) : Call l m_Mod_here false 68 68 [aR 53] w (rt (some (aI (herV E re a))) w) := by
  obtain ⟨hx1, hx2, hx3⟩ := hX
  refine Call.of (L := [some (aR 53)]) rfl (Nat.le_of_ble_eq_true rfl) rfl (fun G ad => ?_)
  refine j_aload_n (pc' := 1) (z := 53) dX12_here_0 rfl rfl ?_
  refine j_get (pc' := 4) (v := aI a) dX12_here_1 rfl f_Mod_85 (by omega) hO rfl ?_
  refine j_aload_n (pc' := 5) (z := 53) dX12_here_4 rfl rfl ?_
  refine j_get (pc' := 8) (v := aI re) dX12_here_5 rfl f_Mod_89 (by omega) hO rfl ?_
  refine j_icmp_ge (tgt := 32) (pc' := 11) dX12_here_8 (by decide) rfl (by omega) (by omega) (fun h8 => ?_) (fun h8 => ?_)
  · refine j_iconst (pc' := 33) dX12_here_32 rfl ?_
    exact j_iret dX12_here_33 rfl (rt_eq (by unfold herV; first | (rw [if_pos (by omega), ← hxa.1]; rfl) | rw [if_neg (by omega)]))
  · have hxa := hx1 a (by omega)
    refine j_aload_n (pc' := 12) (z := 53) dX12_here_11 rfl rfl ?_
    refine j_get (pc' := 15) (v := aR 66) dX12_here_12 rfl f_Mod_46 (by omega) hO rfl ?_
    refine j_aload_n (pc' := 16) (z := 53) dX12_here_15 rfl rfl ?_
    refine j_get (pc' := 19) (v := aI ra) dX12_here_16 rfl f_Mod_92 (by omega) hO rfl ?_
    refine j_aload_n (pc' := 20) (z := 53) dX12_here_19 rfl rfl ?_
    refine j_get (pc' := 23) (v := aI a) dX12_here_20 rfl f_Mod_85 (by omega) hO rfl ?_
    refine j_iadd (pc' := 24) dX12_here_23 rfl ?_
    refine j_iald (pc' := 25) dX12_here_24 rfl (by omega) hel (by omega) (by decide) ?_
    refine j_sipush (pc' := 28) dX12_here_25 rfl (by decide) ?_
    refine j_imask (pc' := 29) 8 dX12_here_28 rfl (by decide) rfl ?_
    refine j_goto (pc' := 33) dX12_here_29 (by decide) ?_
    exact j_iret dX12_here_33 rfl (rt_eq (by unfold herV; first | (rw [if_pos (by omega), ← hxa.1]; rfl) | rw [if_neg (by omega)]))
set_option maxRecDepth 100000 in
set_option maxHeartbeats 4000000 in
theorem c_Mod_readsNumber {l : Launch} {w : AW} {el E nu : Int → Int} {k m : Int} {hi a ra re fm se th : Int} (hO : w 53 = mOb hi a ra re fm se th) (hel : w 66 = eI 800 el) (hX : TX el E ra re) (hnu : w 58 = eI 4 nu) (hk : 0 ≤ k ∧ k ≤ 3) (hm : 1 ≤ m ∧ m ≤ 2) (ha : 0 ≤ a ∧ a ≤ 500) : Call l m_Mod_readsNumber false 68 68 [aR 53, aI k, aI m] w (fun r w9 => r = some (aB (rdp E re m.toNat a = a + m)) ∧ ∃ v, w9 = up (up w 58 (eI 4 (upi nu k v))) 53 (mOb hi (rdp E re m.toNat a) ra re fm se th) ∧ (rdp E re m.toNat a = a + m → v = numF E a m)) := by
  have hx3 := hX.2.2
  refine Call.of (L := [some (aR 53), some (aI k), some (aI m), none]) rfl (Nat.le_of_ble_eq_true rfl) rfl (fun G ad => ?_)
  refine j_aload_n (pc' := 1) (z := 53) dX12_readsNumber_0 rfl rfl ?_
  refine j_get (pc' := 4) (v := aR 58) dX12_readsNumber_1 rfl f_Mod_22 (by omega) hO rfl ?_
  refine j_iload_n (pc' := 5) (z := k) dX12_readsNumber_4 rfl rfl ?_
  refine j_iconst (pc' := 6) dX12_readsNumber_5 rfl ?_
  refine j_iast (pc' := 7) dX12_readsNumber_6 rfl (by omega) hnu (by omega) (by decide) ?_
  refine j_iconst (pc' := 8) dX12_readsNumber_7 rfl ?_
  refine j_istore_n (pc' := 9) (L' := [some (aR 53), some (aI k), some (aI m), some (aI 0)]) dX12_readsNumber_8 rfl (by decide) rfl ?_
  have lp9 : ∀ (k9 : Nat) (v : Int) (q : Int) (j : Int), (0 ≤ j ∧ j ≤ m) → (q = a + j) → (rdp E re m.toNat a = rdp E re (m - j).toNat (a + j)) → (v = numF E a j) → ((m - j).toNat) = k9 → J l m_Mod_readsNumber ad G [] false (jZ ad G false 68 m_Mod_readsNumber.2.2.2.2.cells m_Mod_readsNumber.2.2.2.2.slots (fun r w9 => r = some (aB (rdp E re m.toNat a = a + m)) ∧ ∃ v, w9 = up (up w 58 (eI 4 (upi nu k v))) 53 (mOb hi (rdp E re m.toNat a) ra re fm se th) ∧ (rdp E re m.toNat a = a + m → v = numF E a m))) 68 0 0 9 [some (aR 53), some (aI k), some (aI m), some (aI j)] [] (up (up w 58 (eI 4 (upi nu k v))) 53 (eO 11 [aR 54, aR 55, aR 56, aR 57, aI hi, aI q, aI ra, aI re, aR 58, aR 59, aR 60, aI fm, aI se, aR 61, aR 62, aR 63, aR 64, aR 65, aR 66, aI th])) := by
    intro k9
    induction k9 using Nat.strongRecOn with
    | _ k9 ih9 =>
      intro v q j hj9 hq hr hv hk9
      refine j_iload_n (pc' := 10) (z := j) dX12_readsNumber_9 rfl rfl ?_
      refine j_iload_n (pc' := 11) (z := m) dX12_readsNumber_10 rfl rfl ?_
      refine j_icmp_ge (tgt := 69) (pc' := 14) dX12_readsNumber_11 (by decide) rfl (by omega) (by omega) (fun h11 => ?_) (fun h11 => ?_)
      · refine j_iconst (pc' := 70) dX12_readsNumber_69 rfl ?_
        have e9 : rdp E re m.toNat a = q := by rw [hr, show (m - j).toNat = 0 by omega, hq]; rfl
        exact j_zret1 dX12_readsNumber_70 rfl ⟨(rt_b1 (w0 := w) (by omega)).1, v, by rw [e9], fun _ => by rw [hv, show j = m by omega]⟩
      · refine j_aload_n (pc' := 15) (z := 53) dX12_readsNumber_14 rfl rfl ?_
        have hby : q < re → -128 ≤ E q ∧ E q ≤ 127 := fun z => (hX.1 q (by omega)).2
        have hhb := her_bd (E := E) (re := re) (a := q)
        have hhd := her_d hby
        refine j_callV (pc' := 18) (as := []) (rest := []) dX12_readsNumber_15 rfl s_Mod_95 (c_Mod_here up_s ((up_n (by omega)).trans ((up_n (by omega)).trans hel)) hX (by omega)) (by omega) up_s rfl rfl rfl rfl (jdet (st' := [aI (herV E re q)]) rfl ?_)
        refine j_bipush (pc' := 20) dX12_readsNumber_18 rfl (by decide) ?_
        refine j_bipush (pc' := 22) dX12_readsNumber_20 rfl (by decide) ?_
        refine j_callS (pc' := 25) (as := [aI (herV E re q), aI 48, aI 57]) (rest := []) dX12_readsNumber_22 rfl s_Mod_49 (c_Mod_isIn (by omega) (by omega) (by omega)) rfl rfl rfl (jdet (st' := [aB (48 ≤ herV E re q ∧ herV E re q ≤ 57)]) rfl ?_)
        refine j_ifb_ne (tgt := 30) (pc' := 28) dX12_readsNumber_25 (by decide) rfl (fun h25 => ?_) (fun h25 => ?_)
        · have hgd := hhd.mp h25
          have hhe := her_e hgd
          have hns := numF_s (E := E) (a := a) (n := j) hj9.1
          refine j_aload_n (pc' := 31) (z := 53) dX12_readsNumber_30 rfl rfl ?_
          refine j_get (pc' := 34) (v := aR 58) dX12_readsNumber_31 rfl f_Mod_22 (by omega) up_s rfl ?_
          refine j_iload_n (pc' := 35) (z := k) dX12_readsNumber_34 rfl rfl ?_
          refine j_bipush (pc' := 37) dX12_readsNumber_35 rfl (by decide) ?_
          refine j_aload_n (pc' := 38) (z := 53) dX12_readsNumber_37 rfl rfl ?_
          refine j_get (pc' := 41) (v := aR 58) dX12_readsNumber_38 rfl f_Mod_22 (by omega) up_s rfl ?_
          refine j_iload_n (pc' := 42) (z := k) dX12_readsNumber_41 rfl rfl ?_
          refine j_iald (pc' := 43) dX12_readsNumber_42 rfl (by omega) ((up_n (by omega)).trans up_s) (by omega) (by decide) ?_
          refine j_top (b := v) upi_s ?_
          refine j_imul (pc' := 44) dX12_readsNumber_43 rfl ?_
          refine j_aload_n (pc' := 45) (z := 53) dX12_readsNumber_44 rfl rfl ?_
          refine j_callV (pc' := 48) (as := []) (rest := [aI (10 * v), aI k, aR 58]) dX12_readsNumber_45 rfl s_Mod_95 (c_Mod_here up_s ((up_n (by omega)).trans ((up_n (by omega)).trans hel)) hX (by omega)) (by omega) up_s rfl rfl rfl rfl (jdet (st' := [aI (herV E re q), aI (10 * v), aI k, aR 58]) rfl ?_)
          refine j_top (b := E q) hhe ?_
          refine j_iadd (pc' := 49) dX12_readsNumber_48 rfl ?_
          refine j_bipush (pc' := 51) dX12_readsNumber_49 rfl (by decide) ?_
          refine j_isub (pc' := 52) dX12_readsNumber_51 rfl ?_
          refine j_iast (pc' := 53) dX12_readsNumber_52 rfl (by omega) ((up_n (by omega)).trans up_s) (by omega) (by decide) ?_
          refine j_w (w' := up (up w 58 (eI 4 (upi (upi nu k v) k (((10 * v) + (E q)) - 48)))) 53 (eO 11 [aR 54, aR 55, aR 56, aR 57, aI hi, aI q, aI ra, aI re, aR 58, aR 59, aR 60, aI fm, aI se, aR 61, aR 62, aR 63, aR 64, aR 65, aR 66, aI th])) (by funext j9; simp only [up]; (repeat' split) <;> first | rfl | (exfalso; omega)) ?_
          refine j_w (w' := up (up w 58 (eI 4 (upi nu k (10 * v + E q - 48)))) 53 (eO 11 [aR 54, aR 55, aR 56, aR 57, aI hi, aI q, aI ra, aI re, aR 58, aR 59, aR 60, aI fm, aI se, aR 61, aR 62, aR 63, aR 64, aR 65, aR 66, aI th])) (by rw [upi_upi]) ?_
          refine j_aload_n (pc' := 54) (z := 53) dX12_readsNumber_53 rfl rfl ?_
          refine j_dup (pc' := 55) dX12_readsNumber_54 rfl rfl ?_
          refine j_get (pc' := 58) (v := aI q) dX12_readsNumber_55 rfl f_Mod_85 (by omega) up_s rfl ?_
          refine j_iconst (pc' := 59) dX12_readsNumber_58 rfl ?_
          refine j_iadd (pc' := 60) dX12_readsNumber_59 rfl ?_
          refine j_putI (pc' := 63) dX12_readsNumber_60 rfl p_Mod_85 (by omega) up_s (Nat.le_of_ble_eq_true rfl) ?_
          refine j_w (w' := up (up w 58 (eI 4 (upi nu k (10 * v + E q - 48)))) 53 (eO 11 [aR 54, aR 55, aR 56, aR 57, aI hi, aI (q + 1), aI ra, aI re, aR 58, aR 59, aR 60, aI fm, aI se, aR 61, aR 62, aR 63, aR 64, aR 65, aR 66, aI th])) (by funext j9; simp only [up]; (repeat' split) <;> first | rfl | (exfalso; omega)) ?_
          refine j_iinc (pc' := 66) (z := j) (L' := [some (aR 53), some (aI k), some (aI m), some (aI (j + 1))]) dX12_readsNumber_63 rfl (by decide) rfl rfl rfl ?_
          refine j_goto (pc' := 9) dX12_readsNumber_66 (by decide) ?_
          exact ih9 _ (by omega) (10 * v + E q - 48) (q + 1) (j + 1) (by omega) (by omega) (by rw [hr, show (m - j).toNat = (m - (j + 1)).toNat + 1 by omega, rdp_y (by rw [← hq]; exact hgd), show a + j + 1 = a + (j + 1) by omega]) (by rw [hns, ← hv, ← hq]) rfl
        · refine j_iconst (pc' := 29) dX12_readsNumber_28 rfl ?_
          have e9 : rdp E re m.toNat a = q := by rw [hr, show (m - j).toNat = (m - (j + 1)).toNat + 1 by omega, hq, rdp_n (fun z => h25 (hhd.mpr (by rw [hq]; exact z)))]
          exact j_zret0 dX12_readsNumber_29 rfl ⟨(rt_b0 (w0 := w) (by omega)).1, v, by rw [e9], fun z => by omega⟩
  refine j_w (w' := up (up w 58 (eI 4 (upi nu k 0))) 53 (eO 11 [aR 54, aR 55, aR 56, aR 57, aI hi, aI a, aI ra, aI re, aR 58, aR 59, aR 60, aI fm, aI se, aR 61, aR 62, aR 63, aR 64, aR 65, aR 66, aI th])) (by funext j9; simp only [up]; (repeat' split) <;> first | rfl | (subst_vars; assumption) | (subst_vars; symm; assumption) | (exfalso; omega)) ?_
  exact lp9 _ 0 a 0 (by omega) (by omega) (by rw [Int.sub_zero, Int.add_zero]) (by rfl) rfl
