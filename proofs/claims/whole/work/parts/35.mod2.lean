set_option maxRecDepth 100000 in
set_option maxHeartbeats 4000000 in
theorem c_Mod_puts {l : Launch} {w : AW} {q : Nat} {S : Int → Int} {p h : Int} (hr : w q = eI 48 S) (hq : q < 68) (hp : 0 ≤ p ∧ p ≤ 6) : Call l m_Mod_puts false 68 68 [aR q, aI p, aI h] w (rt none (up w q (eI 48 (upi (upi S (6 + 6 * p + 4) h) (6 + 6 * p + 5) 0)))) := by
  refine Call.of (L := [some (aR q), some (aI p), some (aI h)]) rfl (Nat.le_of_ble_eq_true rfl) rfl (fun G ad => ?_)
  refine j_aload_n (pc' := 1) (z := q) dX12_puts_0 rfl rfl ?_
  refine j_iload_n (pc' := 2) (z := p) dX12_puts_1 rfl rfl ?_
  refine j_iconst (pc' := 3) dX12_puts_2 rfl ?_
  refine j_callS (pc' := 6) (as := [aI p, aI 4]) (rest := [aR q]) dX12_puts_3 rfl s_Mod_53 c_Mod_at rfl rfl rfl (jdet (st' := [aI (6 + 6 * p + 4), aR q]) rfl ?_)
  refine j_iload_n (pc' := 7) (z := h) dX12_puts_6 rfl rfl ?_
  refine j_iast (pc' := 8) dX12_puts_7 rfl (by omega) hr (by omega) (by decide) ?_
  refine j_aload_n (pc' := 9) (z := q) dX12_puts_8 rfl rfl ?_
  refine j_iload_n (pc' := 10) (z := p) dX12_puts_9 rfl rfl ?_
  refine j_iconst (pc' := 11) dX12_puts_10 rfl ?_
  refine j_callS (pc' := 14) (as := [aI p, aI 5]) (rest := [aR q]) dX12_puts_11 rfl s_Mod_53 c_Mod_at rfl rfl rfl (jdet (st' := [aI (6 + 6 * p + 5), aR q]) rfl ?_)
  refine j_iconst (pc' := 15) dX12_puts_14 rfl ?_
  refine j_iast (pc' := 16) dX12_puts_15 rfl (by omega) up_s (by omega) (by decide) ?_
  refine j_w (w' := up w q (eI 48 (upi (upi S (6 + 6 * p + 4) h) (6 + 6 * p + 5) 0))) (by funext j9; simp only [up]; (repeat' split) <;> first | rfl | (exfalso; omega)) ?_
  exact j_vret dX12_puts_16 rfl rt_rfl
set_option maxRecDepth 100000 in
set_option maxHeartbeats 4000000 in
theorem c_Mod_drive {l : Launch} {w : AW} {q : Nat} {S : Int → Int} {D : Int → Int → Int} {n mi : Int}  (hr : w q = eI 48 S) (hq : q < 68) (hR : Row S D n mi) (hB : CarOK D n mi) (hwd : WdOK D) : Call l m_Mod_drive false 68 68 [aR q] w (jR w q (hrd D n 0 (D 6 0)) (endD D n) n mi) := by
  obtain ⟨hn, hD, hs0, hs1, hs2, hs3⟩ := id hB
  refine Call.of (L := [some (aR q), none, none]) rfl (Nat.le_of_ble_eq_true rfl) rfl (fun G ad => ?_)
  refine j_aload_n (pc' := 1) (z := q) dX12_drive_0 rfl rfl ?_
  refine j_callS (pc' := 4) (as := [aR q]) (rest := []) dX12_drive_1 rfl s_Mod_77 (c_Mod_heardNow hr (by omega) hR.w hB ) rfl rfl rfl (jdet (st' := [aI (hrd D n 0 (D 6 0))]) rfl ?_)
  refine j_istore_n (pc' := 5) (L' := [some (aR q), some (aI (hrd D n 0 (D 6 0))), none]) dX12_drive_4 rfl (by decide) rfl ?_
  refine j_iconst (pc' := 6) dX12_drive_5 rfl ?_
  refine j_istore_n (pc' := 7) (L' := [some (aR q), some (aI (hrd D n 0 (D 6 0))), some (aI 0)]) dX12_drive_6 rfl (by decide) rfl ?_
  have lp7 : ∀ (k9 : Nat) (X : Int → Int) (i : Int), (0 ≤ i ∧ i ≤ n) → (Row X (endD D i) n mi) → ((n - i).toNat) = k9 → J l m_Mod_drive ad G [] false (jZ ad G false 68 m_Mod_drive.2.2.2.2.cells m_Mod_drive.2.2.2.2.slots (jR w q (hrd D n 0 (D 6 0)) (endD D n) n mi)) 68 0 0 7 [some (aR q), some (aI (hrd D n 0 (D 6 0))), some (aI i)] [] (up w q (eI 48 X)) := by
    intro k9
    induction k9 using Nat.strongRecOn with
    | _ k9 ih7 =>
      intro X i hi9 hX hk7
      refine j_iload_n (pc' := 8) (z := i) dX12_drive_7 rfl rfl ?_
      have hX0 := hX.pn
      refine j_aload_n (pc' := 9) (z := q) dX12_drive_8 rfl rfl ?_
      refine j_iconst (pc' := 10) dX12_drive_9 rfl ?_
      refine j_iald (pc' := 11) dX12_drive_10 rfl (by omega) up_s (by omega) (by decide) ?_
      refine j_icmp_ge (tgt := 83) (pc' := 14) dX12_drive_11 (by decide) rfl (by omega) (by omega) (fun h11 => ?_) (fun h11 => ?_)
      · refine j_iload_n (pc' := 84) (z := (hrd D n 0 (D 6 0))) dX12_drive_83 rfl rfl ?_
        exact j_iret dX12_drive_84 rfl (id (by have e9 : i = n := (by omega); subst e9; exact jR_of rfl hX))
      · obtain ⟨hd4, hd5⟩ := hX.drv (i := i) (by omega)
        have hDi := hD i (by omega) (by omega)
        have hwi := hwd i (by omega) (by omega)
        refine j_aload_n (pc' := 15) (z := q) dX12_drive_14 rfl rfl ?_
        refine j_iload_n (pc' := 16) (z := i) dX12_drive_15 rfl rfl ?_
        refine j_iconst (pc' := 17) dX12_drive_16 rfl ?_
        refine j_callS (pc' := 20) (as := [aI i, aI 4]) (rest := [aR q]) dX12_drive_17 rfl s_Mod_53 c_Mod_at rfl rfl rfl (jdet (st' := [aI (6 + 6 * i + 4), aR q]) rfl ?_)
        refine j_iald (pc' := 21) dX12_drive_20 rfl (by omega) up_s (by omega) (by decide) ?_
        refine j_iconst (pc' := 22) dX12_drive_21 rfl ?_
        refine j_icmp_ne (tgt := 33) (pc' := 25) dX12_drive_22 (by decide) rfl (by omega) (by omega) (fun h22 => ?_) (fun h22 => ?_)
        · refine j_aload_n (pc' := 34) (z := q) dX12_drive_33 rfl rfl ?_
          refine j_iload_n (pc' := 35) (z := i) dX12_drive_34 rfl rfl ?_
          refine j_iconst (pc' := 36) dX12_drive_35 rfl ?_
          refine j_callS (pc' := 39) (as := [aI i, aI 4]) (rest := [aR q]) dX12_drive_36 rfl s_Mod_53 c_Mod_at rfl rfl rfl (jdet (st' := [aI (6 + 6 * i + 4), aR q]) rfl ?_)
          refine j_iald (pc' := 40) dX12_drive_39 rfl (by omega) up_s (by omega) (by decide) ?_
          have hu4 : True := trivial
          refine j_iconst (pc' := 41) dX12_drive_40 rfl ?_
          refine j_icmp_eq (tgt := 47) (pc' := 44) dX12_drive_41 (by decide) rfl (by omega) (by omega) (fun h41 => ?_) (fun h41 => ?_)
          · refine j_aload_n (pc' := 48) (z := q) dX12_drive_47 rfl rfl ?_
            refine j_iload_n (pc' := 49) (z := i) dX12_drive_48 rfl rfl ?_
            refine j_iconst (pc' := 50) dX12_drive_49 rfl ?_
            refine j_callS (pc' := 53) (as := [aI i, aI 5]) (rest := [aR q]) dX12_drive_50 rfl s_Mod_53 c_Mod_at rfl rfl rfl (jdet (st' := [aI (6 + 6 * i + 5), aR q]) rfl ?_)
            refine j_dup2 (pc' := 54) dX12_drive_53 rfl rfl rfl ?_
            refine j_iald (pc' := 55) dX12_drive_54 rfl (by omega) up_s (by omega) (by decide) ?_
            refine j_iconst (pc' := 56) dX12_drive_55 rfl ?_
            refine j_iadd (pc' := 57) dX12_drive_56 rfl ?_
            refine j_iast (pc' := 58) dX12_drive_57 rfl (by omega) up_s (by omega) (by decide) ?_
            refine j_w (w' := up w q (eI 48 (upi X (6 + 6 * i + 5) ((X (6 + 6 * i + 5)) + 1)))) (by funext j9; simp only [up]; (repeat' split) <;> first | rfl | (exfalso; omega)) ?_
            refine j_aload_n (pc' := 59) (z := q) dX12_drive_58 rfl rfl ?_
            refine j_iload_n (pc' := 60) (z := i) dX12_drive_59 rfl rfl ?_
            refine j_iconst (pc' := 61) dX12_drive_60 rfl ?_
            refine j_callS (pc' := 64) (as := [aI i, aI 5]) (rest := [aR q]) dX12_drive_61 rfl s_Mod_53 c_Mod_at rfl rfl rfl (jdet (st' := [aI (6 + 6 * i + 5), aR q]) rfl ?_)
            refine j_iald (pc' := 65) dX12_drive_64 rfl (by omega) up_s (by omega) (by decide) ?_
            have hu5 : (upi X (6 + 6 * i + 5) ((X (6 + 6 * i + 5)) + 1)) (6 + 6 * i + 5) = X (6 + 6 * i + 5) + 1 := upi_s
            refine j_iconst (pc' := 66) dX12_drive_65 rfl ?_
            refine j_icmp_ne (tgt := 77) (pc' := 69) dX12_drive_66 (by decide) rfl (by omega) (by omega) (fun h66 => ?_) (fun h66 => ?_)
            · refine j_iinc (pc' := 80) (z := i) (L' := [some (aR q), some (aI (hrd D n 0 (D 6 0))), some (aI (i + 1))]) dX12_drive_77 rfl (by decide) rfl rfl rfl ?_
              refine j_goto (pc' := 7) dX12_drive_80 (by decide) ?_
              exact ih7 _ (by omega) (upi X (6 + 6 * i + 5) ((X (6 + 6 * i + 5)) + 1)) (i + 1) (by omega) (by refine (hX.drvW (by omega) (by omega) (by omega)).ex ?_; rw [hd5 (by omega)]) rfl
            · refine j_aload_n (pc' := 70) (z := q) dX12_drive_69 rfl rfl ?_
              refine j_iload_n (pc' := 71) (z := i) dX12_drive_70 rfl rfl ?_
              refine j_iconst (pc' := 72) dX12_drive_71 rfl ?_
              refine j_callS (pc' := 75) (as := [aI i, aI 4]) (rest := [aR q]) dX12_drive_72 rfl s_Mod_53 c_Mod_at rfl rfl rfl (jdet (st' := [aI (6 + 6 * i + 4), aR q]) rfl ?_)
              refine j_iconst (pc' := 76) dX12_drive_75 rfl ?_
              refine j_iast (pc' := 77) dX12_drive_76 rfl (by omega) up_s (by omega) (by decide) ?_
              refine j_w (w' := up w q (eI 48 (upi (upi X (6 + 6 * i + 5) ((X (6 + 6 * i + 5)) + 1)) (6 + 6 * i + 4) 0))) (by funext j9; simp only [up]; (repeat' split) <;> first | rfl | (exfalso; omega)) ?_
              refine j_iinc (pc' := 80) (z := i) (L' := [some (aR q), some (aI (hrd D n 0 (D 6 0))), some (aI (i + 1))]) dX12_drive_77 rfl (by decide) rfl rfl rfl ?_
              refine j_goto (pc' := 7) dX12_drive_80 (by decide) ?_
              exact ih7 _ (by omega) (upi (upi X (6 + 6 * i + 5) ((X (6 + 6 * i + 5)) + 1)) (6 + 6 * i + 4) 0) (i + 1) (by omega) (by exact (hX.drvF (by omega) (by omega) (by omega)).ex rfl) rfl
          · refine j_goto (pc' := 77) dX12_drive_44 (by decide) ?_
            refine j_iinc (pc' := 80) (z := i) (L' := [some (aR q), some (aI (hrd D n 0 (D 6 0))), some (aI (i + 1))]) dX12_drive_77 rfl (by decide) rfl rfl rfl ?_
            refine j_goto (pc' := 7) dX12_drive_80 (by decide) ?_
            exact ih7 _ (by omega) X (i + 1) (by omega) (by exact hX.drvK (by omega) (by omega) (by omega)) rfl
        · refine j_aload_n (pc' := 26) (z := q) dX12_drive_25 rfl rfl ?_
          refine j_iload_n (pc' := 27) (z := i) dX12_drive_26 rfl rfl ?_
          refine j_iconst (pc' := 28) dX12_drive_27 rfl ?_
          refine j_callS (pc' := 31) (as := [aI i, aI 4]) (rest := [aR q]) dX12_drive_28 rfl s_Mod_53 c_Mod_at rfl rfl rfl (jdet (st' := [aI (6 + 6 * i + 4), aR q]) rfl ?_)
          refine j_iconst (pc' := 32) dX12_drive_31 rfl ?_
          refine j_iast (pc' := 33) dX12_drive_32 rfl (by omega) up_s (by omega) (by decide) ?_
          refine j_w (w' := up w q (eI 48 (upi X (6 + 6 * i + 4) 0))) (by funext j9; simp only [up]; (repeat' split) <;> first | rfl | (exfalso; omega)) ?_
          refine j_aload_n (pc' := 34) (z := q) dX12_drive_33 rfl rfl ?_
          refine j_iload_n (pc' := 35) (z := i) dX12_drive_34 rfl rfl ?_
          refine j_iconst (pc' := 36) dX12_drive_35 rfl ?_
          refine j_callS (pc' := 39) (as := [aI i, aI 4]) (rest := [aR q]) dX12_drive_36 rfl s_Mod_53 c_Mod_at rfl rfl rfl (jdet (st' := [aI (6 + 6 * i + 4), aR q]) rfl ?_)
          refine j_iald (pc' := 40) dX12_drive_39 rfl (by omega) up_s (by omega) (by decide) ?_
          have hu4 : (upi X (6 + 6 * i + 4) 0) (6 + 6 * i + 4) = 0 := upi_s
          refine j_iconst (pc' := 41) dX12_drive_40 rfl ?_
          refine j_icmp_eq (tgt := 47) (pc' := 44) dX12_drive_41 (by decide) rfl (by omega) (by omega) (fun h41 => ?_) (fun h41 => ?_)
          · exact absurd (hu4.symm.trans h41) (by decide)
          · refine j_goto (pc' := 77) dX12_drive_44 (by decide) ?_
            refine j_iinc (pc' := 80) (z := i) (L' := [some (aR q), some (aI (hrd D n 0 (D 6 0))), some (aI (i + 1))]) dX12_drive_77 rfl (by decide) rfl rfl rfl ?_
            refine j_goto (pc' := 7) dX12_drive_80 (by decide) ?_
            exact ih7 _ (by omega) (upi X (6 + 6 * i + 4) 0) (i + 1) (by omega) (by exact (hX.drvH (by omega) (by omega)).ex rfl) rfl
  refine j_w (w' := up w q (eI 48 S)) (by funext j9; simp only [up]; split <;> first | (subst_vars; exact hr) | rfl) ?_
  exact lp7 _ S 0 (by omega) (by rw [endD_0]; exact hR) rfl
set_option maxRecDepth 100000 in
set_option maxHeartbeats 4000000 in
theorem c_Mod_screw {l : Launch} {w : AW} {q : Nat} {S : Int → Int} {D : Int → Int → Int} {n mi : Int} {p : Int} (hr : w q = eI 48 S) (hq : q < 68) (hR : Row S D n mi) (hB : CarOK D n mi) (hp : 0 ≤ p ∧ p < n) : Call l m_Mod_screw false 68 68 [aR q, aI p] w (jR w q (scrD D n p 1 (nxt n p)) (scrD D n p) n mi) := by
  obtain ⟨hn, hD, hs0, hs1, hs2, hs3⟩ := id hB
  have hDp := hD p (by omega) (by omega)
  have hnx : nxt n p = (p + 1) % n := by unfold nxt; split; (rw [Int.emod_eq_of_lt (by omega) (by omega)]); (rw [show p + 1 = n by omega, Int.emod_self])
  have hnb : 0 ≤ nxt n p ∧ nxt n p < n := by unfold nxt; split <;> omega
  have hDx := hD (nxt n p) (by omega) (by omega)
  have hlb := loos_bd (k := D 0 (nxt n p))
  have hR1 : Row (upi S (6 + 6 * p + 1) 0) (upD D 1 p 0) n mi := hR.fg hp
  have hB1 : CarOK (upD D 1 p 0) n mi := hB.fg (by omega)
  refine Call.of (L := [some (aR q), some (aI p), none, none]) rfl (Nat.le_of_ble_eq_true rfl) rfl (fun G ad => ?_)
  refine j_aload_n (pc' := 1) (z := q) dX12_screw_0 rfl rfl ?_
  refine j_iload_n (pc' := 2) (z := p) dX12_screw_1 rfl rfl ?_
  refine j_iconst (pc' := 3) dX12_screw_2 rfl ?_
  refine j_callS (pc' := 6) (as := [aI p, aI 1]) (rest := [aR q]) dX12_screw_3 rfl s_Mod_53 c_Mod_at rfl rfl rfl (jdet (st' := [aI (6 + 6 * p + 1), aR q]) rfl ?_)
  refine j_iconst (pc' := 7) dX12_screw_6 rfl ?_
  refine j_iast (pc' := 8) dX12_screw_7 rfl (by omega) hr (by omega) (by decide) ?_
  refine j_aload_n (pc' := 9) (z := q) dX12_screw_8 rfl rfl ?_
  refine j_iconst (pc' := 10) dX12_screw_9 rfl ?_
  refine j_iald (pc' := 11) dX12_screw_10 rfl (by omega) up_s (by omega) (by decide) ?_
  refine j_top (b := n) hR1.pn ?_
  refine j_iconst (pc' := 12) dX12_screw_11 rfl ?_
  refine j_icmp_ne (tgt := 17) (pc' := 15) dX12_screw_12 (by decide) rfl (by omega) (by omega) (fun h12 => ?_) (fun h12 => ?_)
  · refine j_iload_n (pc' := 18) (z := p) dX12_screw_17 rfl rfl ?_
    refine j_iconst (pc' := 19) dX12_screw_18 rfl ?_
    refine j_iadd (pc' := 20) dX12_screw_19 rfl ?_
    refine j_aload_n (pc' := 21) (z := q) dX12_screw_20 rfl rfl ?_
    refine j_iconst (pc' := 22) dX12_screw_21 rfl ?_
    refine j_iald (pc' := 23) dX12_screw_22 rfl (by omega) up_s (by omega) (by decide) ?_
    refine j_top (b := n) hR1.pn ?_
    refine j_irem (pc' := 24) dX12_screw_23 rfl (by omega) (by omega) ?_
    refine j_top (b := nxt n p) hnx.symm ?_
    refine j_istore_n (pc' := 25) (L' := [some (aR q), some (aI p), some (aI (nxt n p)), none]) dX12_screw_24 rfl (by decide) rfl ?_
    refine j_aload_n (pc' := 26) (z := q) dX12_screw_25 rfl rfl ?_
    refine j_iload_n (pc' := 27) (z := (nxt n p)) dX12_screw_26 rfl rfl ?_
    refine j_iconst (pc' := 28) dX12_screw_27 rfl ?_
    refine j_callS (pc' := 31) (as := [aI (nxt n p), aI 1]) (rest := [aR q]) dX12_screw_28 rfl s_Mod_53 c_Mod_at rfl rfl rfl (jdet (st' := [aI (6 + 6 * (nxt n p) + 1), aR q]) rfl ?_)
    refine j_iald (pc' := 32) dX12_screw_31 rfl (by omega) up_s (by omega) (by decide) ?_
    refine j_top (b := (upD D 1 p 0) 1 (nxt n p)) (hR1.pj (j := 1) (p := (nxt n p)) (by omega) (by omega)) ?_
    refine j_aload_n (pc' := 33) (z := q) dX12_screw_32 rfl rfl ?_
    refine j_iload_n (pc' := 34) (z := (nxt n p)) dX12_screw_33 rfl rfl ?_
    refine j_callS (pc' := 37) (as := [aR q, aI (nxt n p)]) (rest := [aI ((upD D 1 p 0) 1 (nxt n p))]) dX12_screw_34 rfl s_Mod_81 (c_Mod_loosensOf up_s (by omega) hR1.w hB1 (by omega)) rfl rfl rfl (jdet (st' := [aI (loos ((upD D 1 p 0) 0 (nxt n p))), aI ((upD D 1 p 0) 1 (nxt n p))]) rfl ?_)
    refine j_iadd (pc' := 38) dX12_screw_37 rfl ?_
    have hne : ¬ nxt n p = p := by unfold nxt; split <;> omega
    have e1 : upD D 1 p 0 1 (nxt n p) = D 1 (nxt n p) := by rw [upD_s, upi_n hne]
    have e0 : upD D 1 p 0 0 (nxt n p) = D 0 (nxt n p) := by rw [upD_n (by omega)]
    refine j_top (b := D 1 (nxt n p) + loos (D 0 (nxt n p))) (by rw [e1, e0]) ?_
    refine j_istore_n (pc' := 39) (L' := [some (aR q), some (aI p), some (aI (nxt n p)), some (aI (D 1 (nxt n p) + loos (D 0 (nxt n p))))]) dX12_screw_38 rfl (by decide) rfl ?_
    refine j_aload_n (pc' := 40) (z := q) dX12_screw_39 rfl rfl ?_
    refine j_iload_n (pc' := 41) (z := (nxt n p)) dX12_screw_40 rfl rfl ?_
    refine j_iconst (pc' := 42) dX12_screw_41 rfl ?_
    refine j_callS (pc' := 45) (as := [aI (nxt n p), aI 1]) (rest := [aR q]) dX12_screw_42 rfl s_Mod_53 c_Mod_at rfl rfl rfl (jdet (st' := [aI (6 + 6 * (nxt n p) + 1), aR q]) rfl ?_)
    refine j_iload_n (pc' := 46) (z := (D 1 (nxt n p) + loos (D 0 (nxt n p)))) dX12_screw_45 rfl rfl ?_
    refine j_bipush (pc' := 48) dX12_screw_46 rfl (by decide) ?_
    refine j_icmp_le (tgt := 56) (pc' := 51) dX12_screw_48 (by decide) rfl (by omega) (by omega) (fun h48 => ?_) (fun h48 => ?_)
    · refine j_iload_n (pc' := 57) (z := (D 1 (nxt n p) + loos (D 0 (nxt n p)))) dX12_screw_56 rfl rfl ?_
      refine j_iast (pc' := 58) dX12_screw_57 rfl (by omega) up_s (by omega) (by decide) ?_
      refine j_w (w' := up w q (eI 48 (upi (upi S (6 + 6 * p + 1) 0) (6 + 6 * (nxt n p) + 1) (D 1 (nxt n p) + loos (D 0 (nxt n p)))))) (by funext j9; simp only [up]; (repeat' split) <;> first | rfl | (exfalso; omega)) ?_
      refine j_aload_n (pc' := 59) (z := q) dX12_screw_58 rfl rfl ?_
      refine j_iload_n (pc' := 60) (z := (nxt n p)) dX12_screw_59 rfl rfl ?_
      refine j_iconst (pc' := 61) dX12_screw_60 rfl ?_
      refine j_callS (pc' := 64) (as := [aI (nxt n p), aI 1]) (rest := [aR q]) dX12_screw_61 rfl s_Mod_53 c_Mod_at rfl rfl rfl (jdet (st' := [aI (6 + 6 * (nxt n p) + 1), aR q]) rfl ?_)
      refine j_iald (pc' := 65) dX12_screw_64 rfl (by omega) up_s (by omega) (by decide) ?_
      exact j_iret dX12_screw_65 rfl (id (by have e9 : scrD D n p = upD (upD D 1 p 0) 1 (nxt n p) (min 9 (D 1 (nxt n p) + loos (D 0 (nxt n p)))) := if_neg hne; rw [e9]; first | (rw [show min 9 (D 1 (nxt n p) + loos (D 0 (nxt n p))) = 9 by omega]; exact jR_of (by rw [upi_s, upD_s, upi_s]) (hR1.fg hnb)) | (rw [show min 9 (D 1 (nxt n p) + loos (D 0 (nxt n p))) = D 1 (nxt n p) + loos (D 0 (nxt n p)) by omega]; exact jR_of (by rw [upi_s, upD_s, upi_s]) (hR1.fg hnb))))
    · refine j_bipush (pc' := 53) dX12_screw_51 rfl (by decide) ?_
      refine j_goto (pc' := 57) dX12_screw_53 (by decide) ?_
      refine j_iast (pc' := 58) dX12_screw_57 rfl (by omega) up_s (by omega) (by decide) ?_
      refine j_w (w' := up w q (eI 48 (upi (upi S (6 + 6 * p + 1) 0) (6 + 6 * (nxt n p) + 1) 9))) (by funext j9; simp only [up]; (repeat' split) <;> first | rfl | (exfalso; omega)) ?_
      refine j_aload_n (pc' := 59) (z := q) dX12_screw_58 rfl rfl ?_
      refine j_iload_n (pc' := 60) (z := (nxt n p)) dX12_screw_59 rfl rfl ?_
      refine j_iconst (pc' := 61) dX12_screw_60 rfl ?_
      refine j_callS (pc' := 64) (as := [aI (nxt n p), aI 1]) (rest := [aR q]) dX12_screw_61 rfl s_Mod_53 c_Mod_at rfl rfl rfl (jdet (st' := [aI (6 + 6 * (nxt n p) + 1), aR q]) rfl ?_)
      refine j_iald (pc' := 65) dX12_screw_64 rfl (by omega) up_s (by omega) (by decide) ?_
      exact j_iret dX12_screw_65 rfl (id (by have e9 : scrD D n p = upD (upD D 1 p 0) 1 (nxt n p) (min 9 (D 1 (nxt n p) + loos (D 0 (nxt n p)))) := if_neg hne; rw [e9]; first | (rw [show min 9 (D 1 (nxt n p) + loos (D 0 (nxt n p))) = 9 by omega]; exact jR_of (by rw [upi_s, upD_s, upi_s]) (hR1.fg hnb)) | (rw [show min 9 (D 1 (nxt n p) + loos (D 0 (nxt n p))) = D 1 (nxt n p) + loos (D 0 (nxt n p)) by omega]; exact jR_of (by rw [upi_s, upD_s, upi_s]) (hR1.fg hnb))))
  · have hne : nxt n p = p := by unfold nxt; split <;> omega
    refine j_iconst (pc' := 16) dX12_screw_15 rfl ?_
    exact j_iret dX12_screw_16 rfl (id (by have e9 : scrD D n p = upD D 1 p 0 := if_pos hne; rw [e9, hne]; exact jR_of (by rw [upD_s, upi_s]) hR1))
set_option maxRecDepth 100000 in
set_option maxHeartbeats 4000000 in
theorem c_Mod_isPart {l : Launch} {w : AW} {D Di : Int → Int → Int} {n mi hi ni mj : Int} {sh E : Int → Int → Int} {p : Int} (hM : Mod w D n mi hi Di ni mj sh E) (hB : CarOK D n mi) (hsh : ShOK sh E) (hp : inI p) : Call l m_Mod_isPart false 68 68 [aR 53, aI p] w (rt (some (aB (0 ≤ p ∧ p < n))) w) := by
  have hT := MS.rf hM
  have hM0 := hM
  obtain ⟨⟨pc, ra, re, fm, se, th, hO⟩, ⟨S, hS, hR⟩, ⟨Sm, hSm⟩, ⟨Si, hSi, hRi⟩, ⟨Sw, hSw⟩, ⟨nu, hnu⟩, ⟨ha, hha⟩, ⟨fg, hfg⟩, ke, kk, kf, so, si, el, ⟨hke, hkk, hkf, hso, hsi, hel⟩, hRel⟩ := hM
  obtain ⟨hn, hD, hs0, hs1, hs2, hs3⟩ := id hB
  refine Call.of (L := [some (aR 53), some (aI p)]) rfl (Nat.le_of_ble_eq_true rfl) rfl (fun G ad => ?_)
  refine j_iload_n (pc' := 1) (z := p) dX12_isPart_0 rfl rfl ?_
  refine j_iconst (pc' := 2) dX12_isPart_1 rfl ?_
  refine j_aload_n (pc' := 3) (z := 53) dX12_isPart_2 rfl rfl ?_
  refine j_get (pc' := 6) (v := aR 54) dX12_isPart_3 rfl f_Mod_9 (by omega) hO rfl ?_
  refine j_iconst (pc' := 7) dX12_isPart_6 rfl ?_
  refine j_iald (pc' := 8) dX12_isPart_7 rfl (by omega) hS (by omega) (by decide) ?_
  refine j_top (b := n) hR.pn ?_
  refine j_iconst (pc' := 9) dX12_isPart_8 rfl ?_
  refine j_isub (pc' := 10) dX12_isPart_9 rfl ?_
  refine j_callS (pc' := 13) (as := [aI p, aI 0, aI (n - 1)]) (rest := []) dX12_isPart_10 rfl s_Mod_49 (c_Mod_isIn (by omega) (by omega) (by omega)) rfl rfl rfl (jdet (st' := [aB (0 ≤ p ∧ p ≤ n - 1)]) rfl ?_)
  exact j_zret dX12_isPart_13 rfl (rt_bb (by omega))
set_option maxRecDepth 100000 in
set_option maxHeartbeats 4000000 in
theorem c_Mod_isThere {l : Launch} {w : AW} {D Di : Int → Int → Int} {n mi hi ni mj : Int} {sh E : Int → Int → Int} {p : Int} (hM : Mod w D n mi hi Di ni mj sh E) (hB : CarOK D n mi) (hsh : ShOK sh E) (hp : inI p) : Call l m_Mod_isThere false 68 68 [aR 53, aI p] w (rt (some (aB ((0 ≤ p ∧ p < n) ∧ ¬ D 4 p = 3))) w) := by
  have hT := MS.rf hM
  have hM0 := hM
  obtain ⟨⟨pc, ra, re, fm, se, th, hO⟩, ⟨S, hS, hR⟩, ⟨Sm, hSm⟩, ⟨Si, hSi, hRi⟩, ⟨Sw, hSw⟩, ⟨nu, hnu⟩, ⟨ha, hha⟩, ⟨fg, hfg⟩, ke, kk, kf, so, si, el, ⟨hke, hkk, hkf, hso, hsi, hel⟩, hRel⟩ := hM
  obtain ⟨hn, hD, hs0, hs1, hs2, hs3⟩ := id hB
  refine Call.of (L := [some (aR 53), some (aI p)]) rfl (Nat.le_of_ble_eq_true rfl) rfl (fun G ad => ?_)
  refine j_aload_n (pc' := 1) (z := 53) dX12_isThere_0 rfl rfl ?_
  refine j_iload_n (pc' := 2) (z := p) dX12_isThere_1 rfl rfl ?_
  refine j_callV (pc' := 5) (as := [aI p]) (rest := []) dX12_isThere_2 rfl s_Mod_103 (c_Mod_isPart hM0 hB hsh (by omega)) (by omega) hO rfl rfl rfl rfl (jdet (st' := [aB (0 ≤ p ∧ p < n)]) rfl ?_)
  refine j_ifb_eq (tgt := 26) (pc' := 8) dX12_isThere_5 (by decide) rfl (fun h5 => ?_) (fun h5 => ?_)
  · refine j_iconst (pc' := 27) dX12_isThere_26 rfl ?_
    exact j_zret0 dX12_isThere_27 rfl (rt_b0 (by omega))
  · refine j_aload_n (pc' := 9) (z := 53) dX12_isThere_8 rfl rfl ?_
    refine j_get (pc' := 12) (v := aR 54) dX12_isThere_9 rfl f_Mod_9 (by omega) hO rfl ?_
    refine j_iload_n (pc' := 13) (z := p) dX12_isThere_12 rfl rfl ?_
    have hDp := hD p (by omega) (by omega)
    refine j_iconst (pc' := 14) dX12_isThere_13 rfl ?_
    refine j_callS (pc' := 17) (as := [aI p, aI 4]) (rest := [aR 54]) dX12_isThere_14 rfl s_Mod_53 c_Mod_at rfl rfl rfl (jdet (st' := [aI (6 + 6 * p + 4), aR 54]) rfl ?_)
    refine j_iald (pc' := 18) dX12_isThere_17 rfl (by omega) hS (by omega) (by decide) ?_
    refine j_top (b := D 4 p) (hR.pj (j := 4) (p := p) (by omega) (by omega)) ?_
    refine j_iconst (pc' := 19) dX12_isThere_18 rfl ?_
    refine j_icmp_eq (tgt := 26) (pc' := 22) dX12_isThere_19 (by decide) rfl (by omega) (by omega) (fun h19 => ?_) (fun h19 => ?_)
    · refine j_iconst (pc' := 27) dX12_isThere_26 rfl ?_
      exact j_zret0 dX12_isThere_27 rfl (rt_b0 (by omega))
    · refine j_iconst (pc' := 23) dX12_isThere_22 rfl ?_
      refine j_goto (pc' := 27) dX12_isThere_23 (by decide) ?_
      exact j_zret1 dX12_isThere_27 rfl (rt_b1 (by omega))
def wrR (sh : Int → Int → Int) (d of : Int) : Int := if 0 ≤ d ∧ d ≤ 7 then (if sh 0 d = 0 then -11 else if sh 0 d = 2 ∧ (of < 0 ∨ sh 3 d = of) then 0 else -12) else -1
theorem wrR_N {sh : Int → Int → Int} {d : Int} : wrR sh d (-1) = rowR sh d := by unfold wrR rowR refR; (repeat' split) <;> omega
theorem wrR_0 {sh : Int → Int → Int} {d : Int} : wrR sh d 0 = (if rowR sh d = 0 then (if sh 3 d = 0 then 0 else -12) else rowR sh d) := by unfold wrR rowR refR; (repeat' split) <;> omega
set_option maxRecDepth 100000 in
set_option maxHeartbeats 4000000 in
theorem c_Mod_wrongRow {l : Launch} {w : AW} {D Di : Int → Int → Int} {n mi hi ni mj : Int} {sh E : Int → Int → Int} {d x : Int} (hM : Mod w D n mi hi Di ni mj sh E) (hB : CarOK D n mi) (hsh : ShOK sh E) (hd : inI d) (hx : inI x) : Call l m_Mod_wrongRow false 68 68 [aR 53, aI d, aI x] w (rt (some (aI (wrR sh d x))) w) := by
  have hT := MS.rf hM
  have hM0 := hM
  obtain ⟨⟨pc, ra, re, fm, se, th, hO⟩, ⟨S, hS, hR⟩, ⟨Sm, hSm⟩, ⟨Si, hSi, hRi⟩, ⟨Sw, hSw⟩, ⟨nu, hnu⟩, ⟨ha, hha⟩, ⟨fg, hfg⟩, ke, kk, kf, so, si, el, ⟨hke, hkk, hkf, hso, hsi, hel⟩, hRel⟩ := hM
  obtain ⟨hn, hD, hs0, hs1, hs2, hs3⟩ := id hB
  refine Call.of (L := [some (aR 53), some (aI d), some (aI x)]) rfl (Nat.le_of_ble_eq_true rfl) rfl (fun G ad => ?_)
  refine j_iload_n (pc' := 1) (z := d) dX12_wrongRow_0 rfl rfl ?_
  refine j_callS (pc' := 4) (as := [aI d]) (rest := []) dX12_wrongRow_1 rfl s_Mod_144 (c_Mod_isShelf (by omega)) rfl rfl rfl (jdet (st' := [aB (0 ≤ d ∧ d ≤ 7)]) rfl ?_)
  refine j_ifb_ne (tgt := 11) (pc' := 7) dX12_wrongRow_4 (by decide) rfl (fun h4 => ?_) (fun h4 => ?_)
  · obtain ⟨q1, q2, q3, q4, q5, q6⟩ := id (hsh d (by omega))
    refine j_aload_n (pc' := 12) (z := 53) dX12_wrongRow_11 rfl rfl ?_
    refine j_get (pc' := 15) (v := aR 61) dX12_wrongRow_12 rfl f_Mod_31 (by omega) hO rfl ?_
    refine j_iload_n (pc' := 16) (z := d) dX12_wrongRow_15 rfl rfl ?_
    refine j_iald (pc' := 17) dX12_wrongRow_16 rfl (by omega) hke (by omega) (by decide) ?_
    refine j_top (b := sh 0 d) (hRel d (by omega)).1 ?_
    refine j_if_ne (tgt := 25) (pc' := 20) dX12_wrongRow_17 (by decide) rfl (by omega) (fun h17 => ?_) (fun h17 => ?_)
    · refine j_aload_n (pc' := 26) (z := 53) dX12_wrongRow_25 rfl rfl ?_
      refine j_get (pc' := 29) (v := aR 61) dX12_wrongRow_26 rfl f_Mod_31 (by omega) hO rfl ?_
      refine j_iload_n (pc' := 30) (z := d) dX12_wrongRow_29 rfl rfl ?_
      refine j_iald (pc' := 31) dX12_wrongRow_30 rfl (by omega) hke (by omega) (by decide) ?_
      refine j_top (b := sh 0 d) (hRel d (by omega)).1 ?_
      refine j_iconst (pc' := 32) dX12_wrongRow_31 rfl ?_
      refine j_icmp_ne (tgt := 49) (pc' := 35) dX12_wrongRow_32 (by decide) rfl (by omega) (by omega) (fun h32 => ?_) (fun h32 => ?_)
      · refine j_bipush (pc' := 51) dX12_wrongRow_49 rfl (by decide) ?_
        refine j_goto (pc' := 55) dX12_wrongRow_51 (by decide) ?_
        exact j_iret dX12_wrongRow_55 rfl (rt_eq (by unfold wrR; (repeat' split) <;> first | rfl | omega))
      · refine j_iload_n (pc' := 36) (z := x) dX12_wrongRow_35 rfl rfl ?_
        refine j_if_lt (tgt := 54) (pc' := 39) dX12_wrongRow_36 (by decide) rfl (by omega) (fun h36 => ?_) (fun h36 => ?_)
        · refine j_iconst (pc' := 55) dX12_wrongRow_54 rfl ?_
          exact j_iret dX12_wrongRow_55 rfl (rt_eq (by unfold wrR; (repeat' split) <;> first | rfl | omega))
        · refine j_aload_n (pc' := 40) (z := 53) dX12_wrongRow_39 rfl rfl ?_
          refine j_get (pc' := 43) (v := aR 64) dX12_wrongRow_40 rfl f_Mod_40 (by omega) hO rfl ?_
          refine j_iload_n (pc' := 44) (z := d) dX12_wrongRow_43 rfl rfl ?_
          refine j_iald (pc' := 45) dX12_wrongRow_44 rfl (by omega) hso (by omega) (by decide) ?_
          refine j_top (b := sh 3 d) ((hRel d (by omega)).2.2 (by omega)).1 ?_
          refine j_iload_n (pc' := 46) (z := x) dX12_wrongRow_45 rfl rfl ?_
          refine j_icmp_eq (tgt := 54) (pc' := 49) dX12_wrongRow_46 (by decide) rfl (by omega) (by omega) (fun h46 => ?_) (fun h46 => ?_)
          · refine j_iconst (pc' := 55) dX12_wrongRow_54 rfl ?_
            exact j_iret dX12_wrongRow_55 rfl (rt_eq (by unfold wrR; (repeat' split) <;> first | rfl | omega))
          · refine j_bipush (pc' := 51) dX12_wrongRow_49 rfl (by decide) ?_
            refine j_goto (pc' := 55) dX12_wrongRow_51 (by decide) ?_
            exact j_iret dX12_wrongRow_55 rfl (rt_eq (by unfold wrR; (repeat' split) <;> first | rfl | omega))
    · refine j_bipush (pc' := 22) dX12_wrongRow_20 rfl (by decide) ?_
      refine j_goto (pc' := 55) dX12_wrongRow_22 (by decide) ?_
      exact j_iret dX12_wrongRow_55 rfl (rt_eq (by unfold wrR; (repeat' split) <;> first | rfl | omega))
  · refine j_iconst (pc' := 8) dX12_wrongRow_7 rfl ?_
    refine j_goto (pc' := 55) dX12_wrongRow_8 (by decide) ?_
    exact j_iret dX12_wrongRow_55 rfl (rt_eq (by unfold wrR; (repeat' split) <;> first | rfl | omega))
theorem c_Mod_wrongRowN {l : Launch} {w : AW} {D Di : Int → Int → Int} {n mi hi ni mj : Int} {sh E : Int → Int → Int} {d : Int} (hM : Mod w D n mi hi Di ni mj sh E) (hB : CarOK D n mi) (hsh : ShOK sh E) (hd : inI d) : Call l m_Mod_wrongRow false 68 68 [aR 53, aI d, aI (-1)] w (rt (some (aI (rowR sh d))) w) := by
  rw [← wrR_N]; exact c_Mod_wrongRow hM hB hsh hd (by omega)
set_option maxRecDepth 100000 in
set_option maxHeartbeats 4000000 in
theorem c_Mod_wrongKept {l : Launch} {w : AW} {D Di : Int → Int → Int} {n mi hi ni mj : Int} {sh E : Int → Int → Int} {d : Int} (hM : Mod w D n mi hi Di ni mj sh E) (hB : CarOK D n mi) (hsh : ShOK sh E) (hd : inI d) : Call l m_Mod_wrongKept false 68 68 [aR 53, aI d] w (rt (some (aI (kinR sh d))) w) := by
  have hT := MS.rf hM
  have hM0 := hM
  obtain ⟨⟨pc, ra, re, fm, se, th, hO⟩, ⟨S, hS, hR⟩, ⟨Sm, hSm⟩, ⟨Si, hSi, hRi⟩, ⟨Sw, hSw⟩, ⟨nu, hnu⟩, ⟨ha, hha⟩, ⟨fg, hfg⟩, ke, kk, kf, so, si, el, ⟨hke, hkk, hkf, hso, hsi, hel⟩, hRel⟩ := hM
  obtain ⟨hn, hD, hs0, hs1, hs2, hs3⟩ := id hB
  refine Call.of (L := [some (aR 53), some (aI d)]) rfl (Nat.le_of_ble_eq_true rfl) rfl (fun G ad => ?_)
  refine j_iload_n (pc' := 1) (z := d) dX12_wrongKept_0 rfl rfl ?_
  refine j_callS (pc' := 4) (as := [aI d]) (rest := []) dX12_wrongKept_1 rfl s_Mod_144 (c_Mod_isShelf (by omega)) rfl rfl rfl (jdet (st' := [aB (0 ≤ d ∧ d ≤ 7)]) rfl ?_)
  refine j_ifb_ne (tgt := 11) (pc' := 7) dX12_wrongKept_4 (by decide) rfl (fun h4 => ?_) (fun h4 => ?_)
  · obtain ⟨q1, q2, q3, q4, q5, q6⟩ := id (hsh d (by omega))
    refine j_aload_n (pc' := 12) (z := 53) dX12_wrongKept_11 rfl rfl ?_
    refine j_get (pc' := 15) (v := aR 61) dX12_wrongKept_12 rfl f_Mod_31 (by omega) hO rfl ?_
    refine j_iload_n (pc' := 16) (z := d) dX12_wrongKept_15 rfl rfl ?_
    refine j_iald (pc' := 17) dX12_wrongKept_16 rfl (by omega) hke (by omega) (by decide) ?_
    refine j_top (b := sh 0 d) (hRel d (by omega)).1 ?_
    refine j_if_ne (tgt := 25) (pc' := 20) dX12_wrongKept_17 (by decide) rfl (by omega) (fun h17 => ?_) (fun h17 => ?_)
    · refine j_aload_n (pc' := 26) (z := 53) dX12_wrongKept_25 rfl rfl ?_
      refine j_get (pc' := 29) (v := aR 61) dX12_wrongKept_26 rfl f_Mod_31 (by omega) hO rfl ?_
      refine j_iload_n (pc' := 30) (z := d) dX12_wrongKept_29 rfl rfl ?_
      refine j_iald (pc' := 31) dX12_wrongKept_30 rfl (by omega) hke (by omega) (by decide) ?_
      refine j_top (b := sh 0 d) (hRel d (by omega)).1 ?_
      refine j_iconst (pc' := 32) dX12_wrongKept_31 rfl ?_
      refine j_icmp_ne (tgt := 40) (pc' := 35) dX12_wrongKept_32 (by decide) rfl (by omega) (by omega) (fun h32 => ?_) (fun h32 => ?_)
      · refine j_iconst (pc' := 41) dX12_wrongKept_40 rfl ?_
        exact j_iret dX12_wrongKept_41 rfl (rt_eq (by unfold kinR refK; (repeat' split) <;> first | rfl | omega))
      · refine j_bipush (pc' := 37) dX12_wrongKept_35 rfl (by decide) ?_
        refine j_goto (pc' := 41) dX12_wrongKept_37 (by decide) ?_
        exact j_iret dX12_wrongKept_41 rfl (rt_eq (by unfold kinR refK; (repeat' split) <;> first | rfl | omega))
    · refine j_bipush (pc' := 22) dX12_wrongKept_20 rfl (by decide) ?_
      refine j_goto (pc' := 41) dX12_wrongKept_22 (by decide) ?_
      exact j_iret dX12_wrongKept_41 rfl (rt_eq (by unfold kinR refK; (repeat' split) <;> first | rfl | omega))
  · refine j_iconst (pc' := 8) dX12_wrongKept_7 rfl ?_
    refine j_goto (pc' := 41) dX12_wrongKept_8 (by decide) ?_
    exact j_iret dX12_wrongKept_41 rfl (rt_eq (by unfold kinR refK; (repeat' split) <;> first | rfl | omega))
