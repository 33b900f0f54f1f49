set_option maxRecDepth 100000 in
set_option maxHeartbeats 4000000 in
theorem c_Mod_addsPart {l : Launch} {w : AW} {D : Int → Int → Int} {n mi hi : Int} {S : Int → Int} {pc ra re fm se th k f s v : Int} (hO : w 53 = mOb hi pc ra re fm se th) (hS : w 54 = eI 48 S) (hR : Row S D n mi) (hn : 0 ≤ n ∧ n ≤ 6) : Call l m_Mod_addsPart false 68 68 [aR 53, aI k, aI f, aI s, aI v] w (rt none (up w 54 (eI 48 (upi (upi (upi (upi (upi (upi (upi S (6 + 6 * n + 0) k) (6 + 6 * n + 1) f) (6 + 6 * n + 2) s) (6 + 6 * n + 3) v) (6 + 6 * n + 4) 0) (6 + 6 * n + 5) 0) 0 (n + 1))))) := by
  refine Call.of (L := [some (aR 53), some (aI k), some (aI f), some (aI s), some (aI v), none]) rfl (Nat.le_of_ble_eq_true rfl) rfl (fun G ad => ?_)
  refine j_aload_n (pc' := 1) (z := 53) dX12_addsPart_0 rfl rfl ?_
  refine j_get (pc' := 4) (v := aR 54) dX12_addsPart_1 rfl f_Mod_9 (by omega) hO rfl ?_
  refine j_iconst (pc' := 5) dX12_addsPart_4 rfl ?_
  refine j_iald (pc' := 6) dX12_addsPart_5 rfl (by omega) hS (by omega) (by decide) ?_
  refine j_top (b := n) hR.pn ?_
  refine j_istore (pc' := 8) (L' := [some (aR 53), some (aI k), some (aI f), some (aI s), some (aI v), some (aI n)]) dX12_addsPart_6 rfl (by decide) rfl ?_
  refine j_aload_n (pc' := 9) (z := 53) dX12_addsPart_8 rfl rfl ?_
  refine j_get (pc' := 12) (v := aR 54) dX12_addsPart_9 rfl f_Mod_9 (by omega) hO rfl ?_
  refine j_iload (pc' := 14) (z := n) dX12_addsPart_12 rfl rfl ?_
  refine j_iconst (pc' := 15) dX12_addsPart_14 rfl ?_
  refine j_callS (pc' := 18) (as := [aI n, aI 0]) (rest := [aR 54]) dX12_addsPart_15 rfl s_Mod_53 c_Mod_at rfl rfl rfl (jdet (st' := [aI (6 + 6 * n + 0), aR 54]) rfl ?_)
  refine j_iload_n (pc' := 19) (z := k) dX12_addsPart_18 rfl rfl ?_
  refine j_iast (pc' := 20) dX12_addsPart_19 rfl (by omega) hS (by omega) (by decide) ?_
  refine j_aload_n (pc' := 21) (z := 53) dX12_addsPart_20 rfl rfl ?_
  refine j_get (pc' := 24) (v := aR 54) dX12_addsPart_21 rfl f_Mod_9 (by omega) ((up_n (by omega)).trans hO) rfl ?_
  refine j_iload (pc' := 26) (z := n) dX12_addsPart_24 rfl rfl ?_
  refine j_iconst (pc' := 27) dX12_addsPart_26 rfl ?_
  refine j_callS (pc' := 30) (as := [aI n, aI 1]) (rest := [aR 54]) dX12_addsPart_27 rfl s_Mod_53 c_Mod_at rfl rfl rfl (jdet (st' := [aI (6 + 6 * n + 1), aR 54]) rfl ?_)
  refine j_iload_n (pc' := 31) (z := f) dX12_addsPart_30 rfl rfl ?_
  refine j_iast (pc' := 32) dX12_addsPart_31 rfl (by omega) up_s (by omega) (by decide) ?_
  refine j_w (w' := up w 54 (eI 48 (upi (upi S (6 + 6 * n + 0) k) (6 + 6 * n + 1) f))) (by funext j9; simp only [up]; (repeat' split) <;> first | rfl | (exfalso; omega)) ?_
  refine j_aload_n (pc' := 33) (z := 53) dX12_addsPart_32 rfl rfl ?_
  refine j_get (pc' := 36) (v := aR 54) dX12_addsPart_33 rfl f_Mod_9 (by omega) ((up_n (by omega)).trans hO) rfl ?_
  refine j_iload (pc' := 38) (z := n) dX12_addsPart_36 rfl rfl ?_
  refine j_iconst (pc' := 39) dX12_addsPart_38 rfl ?_
  refine j_callS (pc' := 42) (as := [aI n, aI 2]) (rest := [aR 54]) dX12_addsPart_39 rfl s_Mod_53 c_Mod_at rfl rfl rfl (jdet (st' := [aI (6 + 6 * n + 2), aR 54]) rfl ?_)
  refine j_iload_n (pc' := 43) (z := s) dX12_addsPart_42 rfl rfl ?_
  refine j_iast (pc' := 44) dX12_addsPart_43 rfl (by omega) up_s (by omega) (by decide) ?_
  refine j_w (w' := up w 54 (eI 48 (upi (upi (upi S (6 + 6 * n + 0) k) (6 + 6 * n + 1) f) (6 + 6 * n + 2) s))) (by funext j9; simp only [up]; (repeat' split) <;> first | rfl | (exfalso; omega)) ?_
  refine j_aload_n (pc' := 45) (z := 53) dX12_addsPart_44 rfl rfl ?_
  refine j_get (pc' := 48) (v := aR 54) dX12_addsPart_45 rfl f_Mod_9 (by omega) ((up_n (by omega)).trans hO) rfl ?_
  refine j_iload (pc' := 50) (z := n) dX12_addsPart_48 rfl rfl ?_
  refine j_iconst (pc' := 51) dX12_addsPart_50 rfl ?_
  refine j_callS (pc' := 54) (as := [aI n, aI 3]) (rest := [aR 54]) dX12_addsPart_51 rfl s_Mod_53 c_Mod_at rfl rfl rfl (jdet (st' := [aI (6 + 6 * n + 3), aR 54]) rfl ?_)
  refine j_iload (pc' := 56) (z := v) dX12_addsPart_54 rfl rfl ?_
  refine j_iast (pc' := 57) dX12_addsPart_56 rfl (by omega) up_s (by omega) (by decide) ?_
  refine j_w (w' := up w 54 (eI 48 (upi (upi (upi (upi S (6 + 6 * n + 0) k) (6 + 6 * n + 1) f) (6 + 6 * n + 2) s) (6 + 6 * n + 3) v))) (by funext j9; simp only [up]; (repeat' split) <;> first | rfl | (exfalso; omega)) ?_
  refine j_aload_n (pc' := 58) (z := 53) dX12_addsPart_57 rfl rfl ?_
  refine j_get (pc' := 61) (v := aR 54) dX12_addsPart_58 rfl f_Mod_9 (by omega) ((up_n (by omega)).trans hO) rfl ?_
  refine j_iload (pc' := 63) (z := n) dX12_addsPart_61 rfl rfl ?_
  refine j_iconst (pc' := 64) dX12_addsPart_63 rfl ?_
  refine j_callS (pc' := 67) (as := [aR 54, aI n, aI 0]) (rest := []) dX12_addsPart_64 rfl s_Mod_107 (c_Mod_puts up_s (by omega) (by omega)) rfl rfl rfl (jdet (st' := []) rfl ?_)
  refine j_w (w' := up w 54 (eI 48 (upi (upi (upi (upi (upi (upi S (6 + 6 * n + 0) k) (6 + 6 * n + 1) f) (6 + 6 * n + 2) s) (6 + 6 * n + 3) v) (6 + 6 * n + 4) 0) (6 + 6 * n + 5) 0))) (by funext j9; simp only [up]; (repeat' split) <;> first | rfl | (exfalso; omega)) ?_
  refine j_aload_n (pc' := 68) (z := 53) dX12_addsPart_67 rfl rfl ?_
  refine j_get (pc' := 71) (v := aR 54) dX12_addsPart_68 rfl f_Mod_9 (by omega) ((up_n (by omega)).trans hO) rfl ?_
  refine j_iconst (pc' := 72) dX12_addsPart_71 rfl ?_
  refine j_dup2 (pc' := 73) dX12_addsPart_72 rfl rfl rfl ?_
  refine j_iald (pc' := 74) dX12_addsPart_73 rfl (by omega) up_s (by omega) (by decide) ?_
  refine j_top (b := n) (by rw [upi_n (by omega)]; rw [upi_n (by omega)]; rw [upi_n (by omega)]; rw [upi_n (by omega)]; rw [upi_n (by omega)]; rw [upi_n (by omega)]; exact hR.pn) ?_
  refine j_iconst (pc' := 75) dX12_addsPart_74 rfl ?_
  refine j_iadd (pc' := 76) dX12_addsPart_75 rfl ?_
  refine j_iast (pc' := 77) dX12_addsPart_76 rfl (by omega) up_s (by omega) (by decide) ?_
  refine j_w (w' := up w 54 (eI 48 (upi (upi (upi (upi (upi (upi (upi S (6 + 6 * n + 0) k) (6 + 6 * n + 1) f) (6 + 6 * n + 2) s) (6 + 6 * n + 3) v) (6 + 6 * n + 4) 0) (6 + 6 * n + 5) 0) 0 (n + 1)))) (by funext j9; simp only [up]; (repeat' split) <;> first | rfl | (exfalso; omega)) ?_
  exact j_vret dX12_addsPart_77 rfl rt_rfl
set_option maxRecDepth 100000 in
set_option maxHeartbeats 4000000 in
theorem c_Mod_part {l : Launch} {w : AW} {D Di : Int → Int → Int} {n mi hi ni mj : Int} {sh E : Int → Int → Int} {p x : Int} (hM : Mod w D n mi hi Di ni mj sh E) (hB : CarOK D n mi) (hI : CarOK Di ni mj) (hhi : hi = 0 ∨ hi = 1) (hsh : ShOK sh E) (hwd : WdOK D) (hp : inI p) (hx : inI x) : Call l m_Mod_part false 68 68 [aR 53, aI p, aI x] w (jM w (partA D n p x) D n mi hi Di ni mj sh E) := by
  have hT := MS.rf hM
  have hM0 := hM
  obtain ⟨⟨pc, ra, re, fm, se, th, hO⟩, ⟨S, hS, hR⟩, ⟨Sm, hSm⟩, ⟨Si, hSi, hRi⟩, ⟨Sw, hSw⟩, ⟨nu, hnu⟩, ⟨ha, hha⟩, ⟨fg, hfg⟩, ke, kk, kf, so, si, el, ⟨hke, hkk, hkf, hso, hsi, hel⟩, hRel⟩ := hM
  obtain ⟨hn, hD, hs0, hs1, hs2, hs3⟩ := id hB
  refine Call.of (L := [some (aR 53), some (aI p), some (aI x)]) rfl (Nat.le_of_ble_eq_true rfl) rfl (fun G ad => ?_)
  refine j_aload_n (pc' := 1) (z := 53) dX12_part_0 rfl rfl ?_
  refine j_iload_n (pc' := 2) (z := p) dX12_part_1 rfl rfl ?_
  refine j_callV (pc' := 5) (as := [aI p]) (rest := []) dX12_part_2 rfl s_Mod_103 (c_Mod_isPart hT.1 hB hsh (by omega)) (by omega) hO rfl rfl rfl rfl (jdet (st' := [aB (0 ≤ p ∧ p < n)]) rfl ?_)
  refine j_ifb_eq (tgt := 18) (pc' := 8) dX12_part_5 (by decide) rfl (fun h5 => ?_) (fun h5 => ?_)
  · refine j_iconst (pc' := 19) dX12_part_18 rfl ?_
    exact j_iret dX12_part_19 rfl (jM_of (by unfold partA; (repeat' split) <;> first | rfl | omega) hT)
  · refine j_iload_n (pc' := 9) (z := x) dX12_part_8 rfl rfl ?_
    refine j_iconst (pc' := 10) dX12_part_9 rfl ?_
    refine j_bipush (pc' := 12) dX12_part_10 rfl (by decide) ?_
    refine j_callS (pc' := 15) (as := [aI x, aI 0, aI 7]) (rest := []) dX12_part_12 rfl s_Mod_49 (c_Mod_isIn (by omega) (by omega) (by omega)) rfl rfl rfl (jdet (st' := [aB (0 ≤ x ∧ x ≤ 7)]) rfl ?_)
    refine j_ifb_ne (tgt := 20) (pc' := 18) dX12_part_15 (by decide) rfl (fun h15 => ?_) (fun h15 => ?_)
    · have hDp := hD p (by omega) (by omega)
      refine j_iload_n (pc' := 21) (z := x) dX12_part_20 rfl rfl ?_
      refine j_iconst (pc' := 22) dX12_part_21 rfl ?_
      refine j_icmp_ge (tgt := 38) (pc' := 25) dX12_part_22 (by decide) rfl (by omega) (by omega) (fun h22 => ?_) (fun h22 => ?_)
      · refine j_iload_n (pc' := 39) (z := x) dX12_part_38 rfl rfl ?_
        refine j_iconst (pc' := 40) dX12_part_39 rfl ?_
        refine j_icmp_ne (tgt := 60) (pc' := 43) dX12_part_40 (by decide) rfl (by omega) (by omega) (fun h40 => ?_) (fun h40 => ?_)
        · refine j_iload_n (pc' := 61) (z := x) dX12_part_60 rfl rfl ?_
          refine j_bipush (pc' := 63) dX12_part_61 rfl (by decide) ?_
          refine j_icmp_ne (tgt := 77) (pc' := 66) dX12_part_63 (by decide) rfl (by omega) (by omega) (fun h63 => ?_) (fun h63 => ?_)
          · refine j_aload_n (pc' := 78) (z := 53) dX12_part_77 rfl rfl ?_
            refine j_get (pc' := 81) (v := aR 54) dX12_part_78 rfl f_Mod_9 (by omega) hO rfl ?_
            refine j_iload_n (pc' := 82) (z := p) dX12_part_81 rfl rfl ?_
            refine j_callS (pc' := 85) (as := [aR 54, aI p]) (rest := []) dX12_part_82 rfl s_Mod_81 (c_Mod_loosensOf hS (by omega) hR.w hB (by omega)) rfl rfl rfl (jdet (st' := [aI (loos (D 0 p))]) rfl ?_)
            exact j_iret dX12_part_85 rfl (jM_of (by unfold partA; rw [if_pos (by omega)]; first | (rcases (show x = 0 ∨ x = 1 ∨ x = 2 ∨ x = 3 ∨ x = 4 by omega) with rfl | rfl | rfl | rfl | rfl <;> rfl) | (have h9 : x = 5 := (by omega); subst h9; rfl) | (have h9 : x = 6 := (by omega); subst h9; rfl) | (have h9 : x = 7 := (by omega); subst h9; rfl)) hT)
          · refine j_aload_n (pc' := 67) (z := 53) dX12_part_66 rfl rfl ?_
            refine j_get (pc' := 70) (v := aR 54) dX12_part_67 rfl f_Mod_9 (by omega) hO rfl ?_
            refine j_iload_n (pc' := 71) (z := p) dX12_part_70 rfl rfl ?_
            refine j_callS (pc' := 74) (as := [aR 54, aI p]) (rest := []) dX12_part_71 rfl s_Mod_141 (c_Mod_secondsOf hS (by omega) hR.w hB (by omega)) rfl rfl rfl (jdet (st' := [aI (secs (D 0 p) (D 1 p))]) rfl ?_)
            refine j_goto (pc' := 85) dX12_part_74 (by decide) ?_
            exact j_iret dX12_part_85 rfl (jM_of (by unfold partA; rw [if_pos (by omega)]; first | (rcases (show x = 0 ∨ x = 1 ∨ x = 2 ∨ x = 3 ∨ x = 4 by omega) with rfl | rfl | rfl | rfl | rfl <;> rfl) | (have h9 : x = 5 := (by omega); subst h9; rfl) | (have h9 : x = 6 := (by omega); subst h9; rfl) | (have h9 : x = 7 := (by omega); subst h9; rfl)) hT)
        · refine j_aload_n (pc' := 44) (z := 53) dX12_part_43 rfl rfl ?_
          refine j_get (pc' := 47) (v := aR 54) dX12_part_44 rfl f_Mod_9 (by omega) hO rfl ?_
          refine j_iload_n (pc' := 48) (z := p) dX12_part_47 rfl rfl ?_
          refine j_aload_n (pc' := 49) (z := 53) dX12_part_48 rfl rfl ?_
          refine j_get (pc' := 52) (v := aR 54) dX12_part_49 rfl f_Mod_9 (by omega) hO rfl ?_
          refine j_iconst (pc' := 53) dX12_part_52 rfl ?_
          refine j_iald (pc' := 54) dX12_part_53 rfl (by omega) hS (by omega) (by decide) ?_
          refine j_top (b := D 6 0) hR.s0 ?_
          refine j_callS (pc' := 57) (as := [aR 54, aI p, aI (D 6 0)]) (rest := []) dX12_part_54 rfl s_Mod_60 (c_Mod_loudOf hS (by omega) hR.w hB (by omega) (by omega)) rfl rfl rfl (jdet (st' := [aI (lds D p (D 6 0))]) rfl ?_)
          refine j_goto (pc' := 85) dX12_part_57 (by decide) ?_
          exact j_iret dX12_part_85 rfl (jM_of (by unfold partA; rw [if_pos (by omega)]; first | (rcases (show x = 0 ∨ x = 1 ∨ x = 2 ∨ x = 3 ∨ x = 4 by omega) with rfl | rfl | rfl | rfl | rfl <;> rfl) | (have h9 : x = 5 := (by omega); subst h9; rfl) | (have h9 : x = 6 := (by omega); subst h9; rfl) | (have h9 : x = 7 := (by omega); subst h9; rfl)) hT)
      · refine j_aload_n (pc' := 26) (z := 53) dX12_part_25 rfl rfl ?_
        refine j_get (pc' := 29) (v := aR 54) dX12_part_26 rfl f_Mod_9 (by omega) hO rfl ?_
        refine j_iload_n (pc' := 30) (z := p) dX12_part_29 rfl rfl ?_
        refine j_iload_n (pc' := 31) (z := x) dX12_part_30 rfl rfl ?_
        refine j_callS (pc' := 34) (as := [aI p, aI x]) (rest := [aR 54]) dX12_part_31 rfl s_Mod_53 c_Mod_at rfl rfl rfl (jdet (st' := [aI (6 + 6 * p + x), aR 54]) rfl ?_)
        refine j_iald (pc' := 35) dX12_part_34 rfl (by omega) hS (by omega) (by decide) ?_
        refine j_top (b := D x p) (hR.pj (j := x) (p := p) (by omega) (by omega)) ?_
        refine j_goto (pc' := 85) dX12_part_35 (by decide) ?_
        exact j_iret dX12_part_85 rfl (jM_of (by unfold partA; rw [if_pos (by omega)]; first | (rcases (show x = 0 ∨ x = 1 ∨ x = 2 ∨ x = 3 ∨ x = 4 by omega) with rfl | rfl | rfl | rfl | rfl <;> rfl) | (have h9 : x = 5 := (by omega); subst h9; rfl) | (have h9 : x = 6 := (by omega); subst h9; rfl) | (have h9 : x = 7 := (by omega); subst h9; rfl)) hT)
    · refine j_iconst (pc' := 19) dX12_part_18 rfl ?_
      exact j_iret dX12_part_19 rfl (jM_of (by unfold partA; (repeat' split) <;> first | rfl | omega) hT)
set_option maxRecDepth 100000 in
set_option maxHeartbeats 4000000 in
theorem c_Mod_adds {l : Launch} {w : AW} {D Di : Int → Int → Int} {n mi hi ni mj : Int} {sh E : Int → Int → Int} {d s v : Int} (hM : Mod w D n mi hi Di ni mj sh E) (hB : CarOK D n mi) (hI : CarOK Di ni mj) (hhi : hi = 0 ∨ hi = 1) (hsh : ShOK sh E) (hwd : WdOK D) (hd : inI d) (hs : inI s) (hv : inI v) : Call l m_Mod_adds false 68 68 [aR 53, aI d, aI s, aI v] w (jM w (addsA sh n d s v) (addsD D sh n d s v) (addsN sh n d s v) mi hi Di ni mj sh E) := by
  have hT := MS.rf hM
  have hM0 := hM
  obtain ⟨⟨pc, ra, re, fm, se, th, hO⟩, ⟨S, hS, hR⟩, ⟨Sm, hSm⟩, ⟨Si, hSi, hRi⟩, ⟨Sw, hSw⟩, ⟨nu, hnu⟩, ⟨ha, hha⟩, ⟨fg, hfg⟩, ke, kk, kf, so, si, el, ⟨hke, hkk, hkf, hso, hsi, hel⟩, hRel⟩ := hM
  obtain ⟨hn, hD, hs0, hs1, hs2, hs3⟩ := id hB
  refine Call.of (L := [some (aR 53), some (aI d), some (aI s), some (aI v), none]) rfl (Nat.le_of_ble_eq_true rfl) rfl (fun G ad => ?_)
  refine j_iload_n (pc' := 1) (z := d) dX12_adds_0 rfl rfl ?_
  refine j_callS (pc' := 4) (as := [aI d]) (rest := []) dX12_adds_1 rfl s_Mod_144 (c_Mod_isShelf (by omega)) rfl rfl rfl (jdet (st' := [aB (0 ≤ d ∧ d ≤ 7)]) rfl ?_)
  refine j_ifb_eq (tgt := 24) (pc' := 7) dX12_adds_4 (by decide) rfl (fun h4 => ?_) (fun h4 => ?_)
  · refine j_iconst (pc' := 25) dX12_adds_24 rfl ?_
    exact j_iret dX12_adds_25 rfl (jM_of (by unfold addsA; (repeat' split) <;> first | rfl | omega) (by rw [show addsD D sh n d s v = D from if_neg (by omega), show addsN sh n d s v = n from if_neg (by omega)]; exact hT))
  · refine j_iload_n (pc' := 8) (z := s) dX12_adds_7 rfl rfl ?_
    refine j_callS (pc' := 11) (as := [aI s]) (rest := []) dX12_adds_8 rfl s_Mod_111 (c_Mod_isSeat (by omega)) rfl rfl rfl (jdet (st' := [aB (0 ≤ s ∧ s ≤ 3)]) rfl ?_)
    refine j_ifb_eq (tgt := 24) (pc' := 14) dX12_adds_11 (by decide) rfl (fun h11 => ?_) (fun h11 => ?_)
    · refine j_iconst (pc' := 25) dX12_adds_24 rfl ?_
      exact j_iret dX12_adds_25 rfl (jM_of (by unfold addsA; (repeat' split) <;> first | rfl | omega) (by rw [show addsD D sh n d s v = D from if_neg (by omega), show addsN sh n d s v = n from if_neg (by omega)]; exact hT))
    · refine j_iload_n (pc' := 15) (z := v) dX12_adds_14 rfl rfl ?_
      refine j_iconst (pc' := 16) dX12_adds_15 rfl ?_
      refine j_bipush (pc' := 18) dX12_adds_16 rfl (by decide) ?_
      refine j_callS (pc' := 21) (as := [aI v, aI 1, aI 9]) (rest := []) dX12_adds_18 rfl s_Mod_49 (c_Mod_isIn (by omega) (by omega) (by omega)) rfl rfl rfl (jdet (st' := [aB (1 ≤ v ∧ v ≤ 9)]) rfl ?_)
      refine j_ifb_ne (tgt := 26) (pc' := 24) dX12_adds_21 (by decide) rfl (fun h21 => ?_) (fun h21 => ?_)
      · have hkr : kinR sh d = refK (sh 0 d) := if_pos (by omega)
        have hkb := kinR_bd (sh := sh) (d := d)
        refine j_aload_n (pc' := 27) (z := 53) dX12_adds_26 rfl rfl ?_
        refine j_iload_n (pc' := 28) (z := d) dX12_adds_27 rfl rfl ?_
        refine j_callV (pc' := 31) (as := [aI d]) (rest := []) dX12_adds_28 rfl s_Mod_147 (c_Mod_wrongKept hT.1 hB hsh (by omega)) (by omega) hO rfl rfl rfl rfl (jdet (st' := [aI (kinR sh d)]) rfl ?_)
        refine j_istore (pc' := 33) (L' := [some (aR 53), some (aI d), some (aI s), some (aI v), some (aI (kinR sh d))]) dX12_adds_31 rfl (by decide) rfl ?_
        refine j_iload (pc' := 35) (z := (kinR sh d)) dX12_adds_33 rfl rfl ?_
        refine j_if_eq (tgt := 41) (pc' := 38) dX12_adds_35 (by decide) rfl (by omega) (fun h35 => ?_) (fun h35 => ?_)
        · have hk0 : refK (sh 0 d) = 0 := by omega
          obtain ⟨hd7, hct⟩ := kinR_0 h35
          obtain ⟨q1, q2, q3, q4, q5, q6⟩ := id (hsh d hd7)
          refine j_aload_n (pc' := 42) (z := 53) dX12_adds_41 rfl rfl ?_
          refine j_get (pc' := 45) (v := aR 54) dX12_adds_42 rfl f_Mod_9 (by omega) hO rfl ?_
          refine j_iconst (pc' := 46) dX12_adds_45 rfl ?_
          refine j_iald (pc' := 47) dX12_adds_46 rfl (by omega) hS (by omega) (by decide) ?_
          refine j_top (b := n) hR.pn ?_
          refine j_bipush (pc' := 49) dX12_adds_47 rfl (by decide) ?_
          refine j_icmp_ne (tgt := 55) (pc' := 52) dX12_adds_49 (by decide) rfl (by omega) (by omega) (fun h49 => ?_) (fun h49 => ?_)
          · refine j_aload_n (pc' := 56) (z := 53) dX12_adds_55 rfl rfl ?_
            refine j_aload_n (pc' := 57) (z := 53) dX12_adds_56 rfl rfl ?_
            refine j_get (pc' := 60) (v := aR 62) dX12_adds_57 rfl f_Mod_34 (by omega) hO rfl ?_
            refine j_iload_n (pc' := 61) (z := d) dX12_adds_60 rfl rfl ?_
            refine j_iald (pc' := 62) dX12_adds_61 rfl (by omega) hkk (by omega) (by decide) ?_
            refine j_top (b := sh 1 d) ((hRel d (by omega)).2.1 (by omega)).1 ?_
            refine j_aload_n (pc' := 63) (z := 53) dX12_adds_62 rfl rfl ?_
            refine j_get (pc' := 66) (v := aR 63) dX12_adds_63 rfl f_Mod_37 (by omega) hO rfl ?_
            refine j_iload_n (pc' := 67) (z := d) dX12_adds_66 rfl rfl ?_
            refine j_iald (pc' := 68) dX12_adds_67 rfl (by omega) hkf (by omega) (by decide) ?_
            refine j_top (b := sh 2 d) ((hRel d (by omega)).2.1 (by omega)).2 ?_
            refine j_iload_n (pc' := 69) (z := s) dX12_adds_68 rfl rfl ?_
            refine j_iload_n (pc' := 70) (z := v) dX12_adds_69 rfl rfl ?_
            refine j_callV (pc' := 73) (as := [aI (sh 1 d), aI (sh 2 d), aI s, aI v]) (rest := []) dX12_adds_70 rfl s_Mod_114 (c_Mod_addsPart hO hS hR (by omega)) (by omega) hO rfl rfl rfl rfl (jdet (st' := []) rfl ?_)
            refine j_aload_n (pc' := 74) (z := 53) dX12_adds_73 rfl rfl ?_
            refine j_get (pc' := 77) (v := aR 54) dX12_adds_74 rfl f_Mod_9 (by omega) ((up_n (by omega)).trans hO) rfl ?_
            refine j_iconst (pc' := 78) dX12_adds_77 rfl ?_
            refine j_iald (pc' := 79) dX12_adds_78 rfl (by omega) up_s (by omega) (by decide) ?_
            refine j_top (b := n + 1) (hR.add (k := (sh 1 d)) (f := (sh 2 d)) (s := s) (v := v) (x := 0) (by omega)).pn ?_
            refine j_iconst (pc' := 80) dX12_adds_79 rfl ?_
            refine j_isub (pc' := 81) dX12_adds_80 rfl ?_
            exact j_iret dX12_adds_81 rfl (jM_of (by unfold addsA tiR; rw [if_pos (by omega), if_pos hk0, if_pos (by omega), if_pos (by omega)]; omega) (by rw [show addsD D sh n d s v = inD D n (sh 1 d) (sh 2 d) s v from (by unfold addsD tiD; rw [if_pos ⟨by omega, hk0⟩, if_pos (by omega)]), show addsN sh n d s v = n + 1 from (by unfold addsN tiN; rw [if_pos ⟨by omega, hk0⟩, if_pos (by omega)])]; exact (hT.s (hR.add (k := (sh 1 d)) (f := (sh 2 d)) (s := s) (v := v) (x := 0) (by omega)))))
          · refine j_bipush (pc' := 54) dX12_adds_52 rfl (by decide) ?_
            exact j_iret dX12_adds_54 rfl (jM_of (by unfold addsA tiR; rw [if_pos (by omega), if_pos hk0, if_pos (by omega), if_neg (by omega)]) (by rw [show addsD D sh n d s v = D from (by unfold addsD tiD; rw [if_pos ⟨by omega, hk0⟩, if_neg (by omega)]), show addsN sh n d s v = n from (by unfold addsN tiN; rw [if_pos ⟨by omega, hk0⟩, if_neg (by omega)])]; exact hT))
        · refine j_iload (pc' := 40) (z := (kinR sh d)) dX12_adds_38 rfl rfl ?_
          exact j_iret dX12_adds_40 rfl (jM_of (by unfold addsA; rw [if_pos (by omega), if_neg (by omega)]; omega) (by rw [show addsD D sh n d s v = D from if_neg (by omega), show addsN sh n d s v = n from if_neg (by omega)]; exact hT))
      · refine j_iconst (pc' := 25) dX12_adds_24 rfl ?_
        exact j_iret dX12_adds_25 rfl (jM_of (by unfold addsA; (repeat' split) <;> first | rfl | omega) (by rw [show addsD D sh n d s v = D from if_neg (by omega), show addsN sh n d s v = n from if_neg (by omega)]; exact hT))
set_option maxRecDepth 100000 in
set_option maxHeartbeats 4000000 in
theorem c_Mod_holds {l : Launch} {w : AW} {D Di : Int → Int → Int} {n mi hi ni mj : Int} {sh E : Int → Int → Int} {p : Int} (hM : Mod w D n mi hi Di ni mj sh E) (hB : CarOK D n mi) (hI : CarOK Di ni mj) (hhi : hi = 0 ∨ hi = 1) (hsh : ShOK sh E) (hwd : WdOK D) (hp : inI p) : Call l m_Mod_holds false 68 68 [aR 53, aI p] w (jM w (holdR D n p) (holdD D n p) n mi hi Di ni mj sh E) := by
  have hT := MS.rf hM
  have hM0 := hM
  obtain ⟨⟨pc, ra, re, fm, se, th, hO⟩, ⟨S, hS, hR⟩, ⟨Sm, hSm⟩, ⟨Si, hSi, hRi⟩, ⟨Sw, hSw⟩, ⟨nu, hnu⟩, ⟨ha, hha⟩, ⟨fg, hfg⟩, ke, kk, kf, so, si, el, ⟨hke, hkk, hkf, hso, hsi, hel⟩, hRel⟩ := hM
  obtain ⟨hn, hD, hs0, hs1, hs2, hs3⟩ := id hB
  refine Call.of (L := [some (aR 53), some (aI p)]) rfl (Nat.le_of_ble_eq_true rfl) rfl (fun G ad => ?_)
  refine j_aload_n (pc' := 1) (z := 53) dX12_holds_0 rfl rfl ?_
  refine j_iload_n (pc' := 2) (z := p) dX12_holds_1 rfl rfl ?_
  refine j_callV (pc' := 5) (as := [aI p]) (rest := []) dX12_holds_2 rfl s_Mod_103 (c_Mod_isPart hT.1 hB hsh (by omega)) (by omega) hO rfl rfl rfl rfl (jdet (st' := [aB (0 ≤ p ∧ p < n)]) rfl ?_)
  refine j_ifb_ne (tgt := 10) (pc' := 8) dX12_holds_5 (by decide) rfl (fun h5 => ?_) (fun h5 => ?_)
  · refine j_aload_n (pc' := 11) (z := 53) dX12_holds_10 rfl rfl ?_
    refine j_iload_n (pc' := 12) (z := p) dX12_holds_11 rfl rfl ?_
    refine j_callV (pc' := 15) (as := [aI p]) (rest := []) dX12_holds_12 rfl s_Mod_118 (c_Mod_isThere hT.1 hB hsh (by omega)) (by omega) hO rfl rfl rfl rfl (jdet (st' := [aB ((0 ≤ p ∧ p < n) ∧ ¬ D 4 p = 3)]) rfl ?_)
    refine j_ifb_ne (tgt := 21) (pc' := 18) dX12_holds_15 (by decide) rfl (fun h15 => ?_) (fun h15 => ?_)
    · have hDp := hD p (by omega) (by omega)
      refine j_aload_n (pc' := 22) (z := 53) dX12_holds_21 rfl rfl ?_
      refine j_get (pc' := 25) (v := aR 54) dX12_holds_22 rfl f_Mod_9 (by omega) hO rfl ?_
      refine j_iload_n (pc' := 26) (z := p) dX12_holds_25 rfl rfl ?_
      refine j_iconst (pc' := 27) dX12_holds_26 rfl ?_
      refine j_callS (pc' := 30) (as := [aR 54, aI p, aI 1]) (rest := []) dX12_holds_27 rfl s_Mod_107 (c_Mod_puts hS (by omega) (by omega)) rfl rfl rfl (jdet (st' := []) rfl ?_)
      refine j_aload_n (pc' := 31) (z := 53) dX12_holds_30 rfl rfl ?_
      refine j_get (pc' := 34) (v := aR 54) dX12_holds_31 rfl f_Mod_9 (by omega) ((up_n (by omega)).trans hO) rfl ?_
      refine j_iload_n (pc' := 35) (z := p) dX12_holds_34 rfl rfl ?_
      refine j_callS (pc' := 38) (as := [aR 54, aI p]) (rest := []) dX12_holds_35 rfl s_Mod_141 (c_Mod_secondsOf up_s (by omega) (hR.put (p := p) (x := 1) (by omega) (by omega)).w (hB.st (p := p) (v := 1) (by omega)) (by omega)) rfl rfl rfl (jdet (st' := [aI (secs ((upD D 4 p 1) 0 p) ((upD D 4 p 1) 1 p))]) rfl ?_)
      exact j_iret dX12_holds_38 rfl (jM_of (by unfold holdR; rw [if_pos (by omega), if_neg (by omega), upD_n (by omega), upD_n (by omega)]) (by rw [show holdD D n p = upD D 4 p 1 from if_pos (by omega)]; exact (hT.s (hR.put (p := p) (x := 1) (by omega) (by omega)))))
    · refine j_bipush (pc' := 20) dX12_holds_18 rfl (by decide) ?_
      exact j_iret dX12_holds_20 rfl (jM_of (by unfold holdR; rw [if_pos (by omega), if_pos (by omega)]) (by rw [show holdD D n p = D from if_neg (by omega)]; exact hT))
  · refine j_iconst (pc' := 9) dX12_holds_8 rfl ?_
    exact j_iret dX12_holds_9 rfl (jM_of (by unfold holdR; rw [if_neg (by omega)]) (by rw [show holdD D n p = D from if_neg (by omega)]; exact hT))
set_option maxRecDepth 100000 in
set_option maxHeartbeats 4000000 in
theorem c_Mod_wedges {l : Launch} {w : AW} {D Di : Int → Int → Int} {n mi hi ni mj : Int} {sh E : Int → Int → Int} {p : Int} (hM : Mod w D n mi hi Di ni mj sh E) (hB : CarOK D n mi) (hI : CarOK Di ni mj) (hhi : hi = 0 ∨ hi = 1) (hsh : ShOK sh E) (hwd : WdOK D) (hp : inI p) : Call l m_Mod_wedges false 68 68 [aR 53, aI p] w (jM w (wedR D n p) (wedD D n p) n mi hi Di ni mj sh E) := by
  have hT := MS.rf hM
  have hM0 := hM
  obtain ⟨⟨pc, ra, re, fm, se, th, hO⟩, ⟨S, hS, hR⟩, ⟨Sm, hSm⟩, ⟨Si, hSi, hRi⟩, ⟨Sw, hSw⟩, ⟨nu, hnu⟩, ⟨ha, hha⟩, ⟨fg, hfg⟩, ke, kk, kf, so, si, el, ⟨hke, hkk, hkf, hso, hsi, hel⟩, hRel⟩ := hM
  obtain ⟨hn, hD, hs0, hs1, hs2, hs3⟩ := id hB
  refine Call.of (L := [some (aR 53), some (aI p), none]) rfl (Nat.le_of_ble_eq_true rfl) rfl (fun G ad => ?_)
  refine j_aload_n (pc' := 1) (z := 53) dX12_wedges_0 rfl rfl ?_
  refine j_iload_n (pc' := 2) (z := p) dX12_wedges_1 rfl rfl ?_
  refine j_callV (pc' := 5) (as := [aI p]) (rest := []) dX12_wedges_2 rfl s_Mod_103 (c_Mod_isPart hT.1 hB hsh (by omega)) (by omega) hO rfl rfl rfl rfl (jdet (st' := [aB (0 ≤ p ∧ p < n)]) rfl ?_)
  refine j_ifb_ne (tgt := 10) (pc' := 8) dX12_wedges_5 (by decide) rfl (fun h5 => ?_) (fun h5 => ?_)
  · refine j_aload_n (pc' := 11) (z := 53) dX12_wedges_10 rfl rfl ?_
    refine j_iload_n (pc' := 12) (z := p) dX12_wedges_11 rfl rfl ?_
    refine j_callV (pc' := 15) (as := [aI p]) (rest := []) dX12_wedges_12 rfl s_Mod_118 (c_Mod_isThere hT.1 hB hsh (by omega)) (by omega) hO rfl rfl rfl rfl (jdet (st' := [aB ((0 ≤ p ∧ p < n) ∧ ¬ D 4 p = 3)]) rfl ?_)
    refine j_ifb_ne (tgt := 21) (pc' := 18) dX12_wedges_15 (by decide) rfl (fun h15 => ?_) (fun h15 => ?_)
    · have hDp := hD p (by omega) (by omega)
      refine j_aload_n (pc' := 22) (z := 53) dX12_wedges_21 rfl rfl ?_
      refine j_get (pc' := 25) (v := aR 54) dX12_wedges_22 rfl f_Mod_9 (by omega) hO rfl ?_
      refine j_iload_n (pc' := 26) (z := p) dX12_wedges_25 rfl rfl ?_
      refine j_iconst (pc' := 27) dX12_wedges_26 rfl ?_
      refine j_callS (pc' := 30) (as := [aI p, aI 4]) (rest := [aR 54]) dX12_wedges_27 rfl s_Mod_53 c_Mod_at rfl rfl rfl (jdet (st' := [aI (6 + 6 * p + 4), aR 54]) rfl ?_)
      refine j_iald (pc' := 31) dX12_wedges_30 rfl (by omega) hS (by omega) (by decide) ?_
      refine j_top (b := D 4 p) (hR.pj (j := 4) (p := p) (by omega) (by omega)) ?_
      refine j_istore_n (pc' := 32) (L' := [some (aR 53), some (aI p), some (aI (D 4 p))]) dX12_wedges_31 rfl (by decide) rfl ?_
      refine j_aload_n (pc' := 33) (z := 53) dX12_wedges_32 rfl rfl ?_
      refine j_get (pc' := 36) (v := aR 54) dX12_wedges_33 rfl f_Mod_9 (by omega) hO rfl ?_
      refine j_iload_n (pc' := 37) (z := p) dX12_wedges_36 rfl rfl ?_
      refine j_iconst (pc' := 38) dX12_wedges_37 rfl ?_
      refine j_callS (pc' := 41) (as := [aR 54, aI p, aI 2]) (rest := []) dX12_wedges_38 rfl s_Mod_107 (c_Mod_puts hS (by omega) (by omega)) rfl rfl rfl (jdet (st' := []) rfl ?_)
      refine j_iload_n (pc' := 42) (z := (D 4 p)) dX12_wedges_41 rfl rfl ?_
      exact j_iret dX12_wedges_42 rfl (jM_of (by unfold wedR; rw [if_pos (by omega), if_neg (by omega)]) (by rw [show wedD D n p = upD (upD D 4 p 2) 5 p 0 from if_pos (by omega)]; exact (hT.s (hR.putW (p := p) (by omega)))))
    · refine j_bipush (pc' := 20) dX12_wedges_18 rfl (by decide) ?_
      exact j_iret dX12_wedges_20 rfl (jM_of (by unfold wedR; rw [if_pos (by omega), if_pos (by omega)]) (by rw [show wedD D n p = D from if_neg (by omega)]; exact hT))
  · refine j_iconst (pc' := 9) dX12_wedges_8 rfl ?_
    exact j_iret dX12_wedges_9 rfl (jM_of (by unfold wedR; rw [if_neg (by omega)]) (by rw [show wedD D n p = D from if_neg (by omega)]; exact hT))
set_option maxRecDepth 100000 in
set_option maxHeartbeats 4000000 in
theorem c_Mod_outs {l : Launch} {w : AW} {D Di : Int → Int → Int} {n mi hi ni mj : Int} {sh E : Int → Int → Int} {p : Int} (hM : Mod w D n mi hi Di ni mj sh E) (hB : CarOK D n mi) (hI : CarOK Di ni mj) (hhi : hi = 0 ∨ hi = 1) (hsh : ShOK sh E) (hwd : WdOK D) (hp : inI p) : Call l m_Mod_outs false 68 68 [aR 53, aI p] w (jM w (outR D n p) (outD D n p) n mi hi Di ni mj sh E) := by
  have hT := MS.rf hM
  have hM0 := hM
  obtain ⟨⟨pc, ra, re, fm, se, th, hO⟩, ⟨S, hS, hR⟩, ⟨Sm, hSm⟩, ⟨Si, hSi, hRi⟩, ⟨Sw, hSw⟩, ⟨nu, hnu⟩, ⟨ha, hha⟩, ⟨fg, hfg⟩, ke, kk, kf, so, si, el, ⟨hke, hkk, hkf, hso, hsi, hel⟩, hRel⟩ := hM
  obtain ⟨hn, hD, hs0, hs1, hs2, hs3⟩ := id hB
  refine Call.of (L := [some (aR 53), some (aI p)]) rfl (Nat.le_of_ble_eq_true rfl) rfl (fun G ad => ?_)
  refine j_aload_n (pc' := 1) (z := 53) dX12_outs_0 rfl rfl ?_
  refine j_iload_n (pc' := 2) (z := p) dX12_outs_1 rfl rfl ?_
  refine j_callV (pc' := 5) (as := [aI p]) (rest := []) dX12_outs_2 rfl s_Mod_103 (c_Mod_isPart hT.1 hB hsh (by omega)) (by omega) hO rfl rfl rfl rfl (jdet (st' := [aB (0 ≤ p ∧ p < n)]) rfl ?_)
  refine j_ifb_ne (tgt := 10) (pc' := 8) dX12_outs_5 (by decide) rfl (fun h5 => ?_) (fun h5 => ?_)
  · have hDp := hD p (by omega) (by omega)
    refine j_aload_n (pc' := 11) (z := 53) dX12_outs_10 rfl rfl ?_
    refine j_get (pc' := 14) (v := aR 54) dX12_outs_11 rfl f_Mod_9 (by omega) hO rfl ?_
    refine j_iload_n (pc' := 15) (z := p) dX12_outs_14 rfl rfl ?_
    refine j_aload_n (pc' := 16) (z := 53) dX12_outs_15 rfl rfl ?_
    refine j_get (pc' := 19) (v := aR 54) dX12_outs_16 rfl f_Mod_9 (by omega) hO rfl ?_
    refine j_iload_n (pc' := 20) (z := p) dX12_outs_19 rfl rfl ?_
    refine j_iconst (pc' := 21) dX12_outs_20 rfl ?_
    refine j_callS (pc' := 24) (as := [aI p, aI 4]) (rest := [aR 54, aI p, aR 54]) dX12_outs_21 rfl s_Mod_53 c_Mod_at rfl rfl rfl (jdet (st' := [aI (6 + 6 * p + 4), aR 54, aI p, aR 54]) rfl ?_)
    refine j_iald (pc' := 25) dX12_outs_24 rfl (by omega) hS (by omega) (by decide) ?_
    refine j_top (b := D 4 p) (hR.pj (j := 4) (p := p) (by omega) (by omega)) ?_
    refine j_iconst (pc' := 26) dX12_outs_25 rfl ?_
    refine j_icmp_ne (tgt := 33) (pc' := 29) dX12_outs_26 (by decide) rfl (by omega) (by omega) (fun h26 => ?_) (fun h26 => ?_)
    · refine j_iconst (pc' := 34) dX12_outs_33 rfl ?_
      refine j_callS (pc' := 37) (as := [aR 54, aI p, aI 3]) (rest := []) dX12_outs_34 rfl s_Mod_107 (c_Mod_puts hS (by omega) (by omega)) rfl rfl rfl (jdet (st' := []) rfl ?_)
      refine j_aload_n (pc' := 38) (z := 53) dX12_outs_37 rfl rfl ?_
      refine j_get (pc' := 41) (v := aR 54) dX12_outs_38 rfl f_Mod_9 (by omega) ((up_n (by omega)).trans hO) rfl ?_
      refine j_iload_n (pc' := 42) (z := p) dX12_outs_41 rfl rfl ?_
      refine j_iconst (pc' := 43) dX12_outs_42 rfl ?_
      refine j_callS (pc' := 46) (as := [aI p, aI 4]) (rest := [aR 54]) dX12_outs_43 rfl s_Mod_53 c_Mod_at rfl rfl rfl (jdet (st' := [aI (6 + 6 * p + 4), aR 54]) rfl ?_)
      refine j_iald (pc' := 47) dX12_outs_46 rfl (by omega) up_s (by omega) (by decide) ?_
      refine j_top (b := (upD D 4 p 3) 4 p) ((hR.put (p := p) (x := 3) (by omega) (by omega)).pj (j := 4) (p := p) (by omega) (by omega)) ?_
      exact j_iret dX12_outs_47 rfl (jM_of (by unfold outR; rw [if_pos (by omega), upD_s, upi_s]; first | rw [if_pos (by omega)] | rw [if_neg (by omega)]) (by have e9 : outD D n p = upD D 4 p 3 := (by unfold outD; rw [if_pos (by omega)]; first | rw [if_pos (by omega)] | rw [if_neg (by omega)]); rw [e9]; exact (hT.s (hR.put (p := p) (x := 3) (by omega) (by omega)))))
    · refine j_iconst (pc' := 30) dX12_outs_29 rfl ?_
      refine j_goto (pc' := 34) dX12_outs_30 (by decide) ?_
      refine j_callS (pc' := 37) (as := [aR 54, aI p, aI 0]) (rest := []) dX12_outs_34 rfl s_Mod_107 (c_Mod_puts hS (by omega) (by omega)) rfl rfl rfl (jdet (st' := []) rfl ?_)
      refine j_aload_n (pc' := 38) (z := 53) dX12_outs_37 rfl rfl ?_
      refine j_get (pc' := 41) (v := aR 54) dX12_outs_38 rfl f_Mod_9 (by omega) ((up_n (by omega)).trans hO) rfl ?_
      refine j_iload_n (pc' := 42) (z := p) dX12_outs_41 rfl rfl ?_
      refine j_iconst (pc' := 43) dX12_outs_42 rfl ?_
      refine j_callS (pc' := 46) (as := [aI p, aI 4]) (rest := [aR 54]) dX12_outs_43 rfl s_Mod_53 c_Mod_at rfl rfl rfl (jdet (st' := [aI (6 + 6 * p + 4), aR 54]) rfl ?_)
      refine j_iald (pc' := 47) dX12_outs_46 rfl (by omega) up_s (by omega) (by decide) ?_
      refine j_top (b := (upD D 4 p 0) 4 p) ((hR.put (p := p) (x := 0) (by omega) (by omega)).pj (j := 4) (p := p) (by omega) (by omega)) ?_
      exact j_iret dX12_outs_47 rfl (jM_of (by unfold outR; rw [if_pos (by omega), upD_s, upi_s]; first | rw [if_pos (by omega)] | rw [if_neg (by omega)]) (by have e9 : outD D n p = upD D 4 p 0 := (by unfold outD; rw [if_pos (by omega)]; first | rw [if_pos (by omega)] | rw [if_neg (by omega)]); rw [e9]; exact (hT.s (hR.put (p := p) (x := 0) (by omega) (by omega)))))
  · refine j_iconst (pc' := 9) dX12_outs_8 rfl ?_
    exact j_iret dX12_outs_9 rfl (jM_of (by unfold outR; rw [if_neg (by omega)]) (by rw [show outD D n p = D from if_neg (by omega)]; exact hT))
set_option maxRecDepth 100000 in
set_option maxHeartbeats 4000000 in
theorem c_Mod_screws {l : Launch} {w : AW} {D Di : Int → Int → Int} {n mi hi ni mj : Int} {sh E : Int → Int → Int} {p : Int} (hM : Mod w D n mi hi Di ni mj sh E) (hB : CarOK D n mi) (hI : CarOK Di ni mj) (hhi : hi = 0 ∨ hi = 1) (hsh : ShOK sh E) (hwd : WdOK D) (hp : inI p) : Call l m_Mod_screws false 68 68 [aR 53, aI p] w (jM w (scrR D n p) (scwD D n p) n mi hi Di ni mj sh E) := by
  have hT := MS.rf hM
  have hM0 := hM
  obtain ⟨⟨pc, ra, re, fm, se, th, hO⟩, ⟨S, hS, hR⟩, ⟨Sm, hSm⟩, ⟨Si, hSi, hRi⟩, ⟨Sw, hSw⟩, ⟨nu, hnu⟩, ⟨ha, hha⟩, ⟨fg, hfg⟩, ke, kk, kf, so, si, el, ⟨hke, hkk, hkf, hso, hsi, hel⟩, hRel⟩ := hM
  obtain ⟨hn, hD, hs0, hs1, hs2, hs3⟩ := id hB
  refine Call.of (L := [some (aR 53), some (aI p)]) rfl (Nat.le_of_ble_eq_true rfl) rfl (fun G ad => ?_)
  refine j_aload_n (pc' := 1) (z := 53) dX12_screws_0 rfl rfl ?_
  refine j_iload_n (pc' := 2) (z := p) dX12_screws_1 rfl rfl ?_
  refine j_callV (pc' := 5) (as := [aI p]) (rest := []) dX12_screws_2 rfl s_Mod_103 (c_Mod_isPart hT.1 hB hsh (by omega)) (by omega) hO rfl rfl rfl rfl (jdet (st' := [aB (0 ≤ p ∧ p < n)]) rfl ?_)
  refine j_ifb_eq (tgt := 19) (pc' := 8) dX12_screws_5 (by decide) rfl (fun h5 => ?_) (fun h5 => ?_)
  · refine j_iconst (pc' := 20) dX12_screws_19 rfl ?_
    exact j_iret dX12_screws_20 rfl (jM_of (by unfold scrR; first | rw [if_pos (by omega)] | rw [if_neg (by omega)]) (by rw [show scwD D n p = D from if_neg (by omega)]; exact hT))
  · refine j_aload_n (pc' := 9) (z := 53) dX12_screws_8 rfl rfl ?_
    refine j_get (pc' := 12) (v := aR 54) dX12_screws_9 rfl f_Mod_9 (by omega) hO rfl ?_
    refine j_iload_n (pc' := 13) (z := p) dX12_screws_12 rfl rfl ?_
    refine j_callS (pc' := 16) (as := [aR 54, aI p]) (rest := []) dX12_screws_13 rfl s_Mod_121 (c_Mod_screw hS (by omega) hR hB (by omega)) rfl rfl rfl (fun r9 w9 h9 => ?_)
    obtain ⟨rfl, S1, hR1, rfl⟩ := h9
    refine j_st (st' := [aI (scrD D n p 1 (nxt n p))]) rfl ?_
    refine j_goto (pc' := 20) dX12_screws_16 (by decide) ?_
    exact j_iret dX12_screws_20 rfl (jM_of (by unfold scrR; first | rw [if_pos (by omega)] | rw [if_neg (by omega)]) (by rw [show scwD D n p = scrD D n p from if_pos (by omega)]; exact (hT.s hR1)))
set_option maxRecDepth 100000 in
set_option maxHeartbeats 4000000 in
theorem c_Mod_set {l : Launch} {w : AW} {D Di : Int → Int → Int} {n mi hi ni mj : Int} {sh E : Int → Int → Int} {x v : Int} (hM : Mod w D n mi hi Di ni mj sh E) (hB : CarOK D n mi) (hI : CarOK Di ni mj) (hhi : hi = 0 ∨ hi = 1) (hsh : ShOK sh E) (hwd : WdOK D) (hx : inI x) (hv : inI v) : Call l m_Mod_set false 68 68 [aR 53, aI x, aI v] w (jM w (chR D x v) (chD D x v) n mi hi Di ni mj sh E) := by
  have hT := MS.rf hM
  have hM0 := hM
  obtain ⟨⟨pc, ra, re, fm, se, th, hO⟩, ⟨S, hS, hR⟩, ⟨Sm, hSm⟩, ⟨Si, hSi, hRi⟩, ⟨Sw, hSw⟩, ⟨nu, hnu⟩, ⟨ha, hha⟩, ⟨fg, hfg⟩, ke, kk, kf, so, si, el, ⟨hke, hkk, hkf, hso, hsi, hel⟩, hRel⟩ := hM
  obtain ⟨hn, hD, hs0, hs1, hs2, hs3⟩ := id hB
  have hm0 := mos0
  have hm1 := mos1
  have hm2 := mos2
  have hm3 := mos3
  have hmx : (x = 0 → mos x = 99) ∧ (x = 1 → mos x = 9) ∧ (x = 2 → mos x = 5) ∧ (x = 3 → mos x = 40) := ⟨fun h => by rw [h]; rfl, fun h => by rw [h]; rfl, fun h => by rw [h]; rfl, fun h => by rw [h]; rfl⟩
  refine Call.of (L := [some (aR 53), some (aI x), some (aI v), none]) rfl (Nat.le_of_ble_eq_true rfl) rfl (fun G ad => ?_)
  refine j_iload_n (pc' := 1) (z := x) dX12_set_0 rfl rfl ?_
  refine j_iconst (pc' := 2) dX12_set_1 rfl ?_
  refine j_iconst (pc' := 3) dX12_set_2 rfl ?_
  refine j_callS (pc' := 6) (as := [aI x, aI 0, aI 3]) (rest := []) dX12_set_3 rfl s_Mod_49 (c_Mod_isIn (by omega) (by omega) (by omega)) rfl rfl rfl (jdet (st' := [aB (0 ≤ x ∧ x ≤ 3)]) rfl ?_)
  refine j_ifb_eq (tgt := 47) (pc' := 9) dX12_set_6 (by decide) rfl (fun h6 => ?_) (fun h6 => ?_)
  · refine j_iconst (pc' := 48) dX12_set_47 rfl ?_
    exact j_iret dX12_set_48 rfl (jM_of (by unfold chR; rw [if_neg (by omega)]) (by rw [show chD D x v = D from if_neg (by omega)]; exact hT))
  · refine j_iload_n (pc' := 10) (z := v) dX12_set_9 rfl rfl ?_
    refine j_iconst (pc' := 11) dX12_set_10 rfl ?_
    refine j_iload_n (pc' := 12) (z := x) dX12_set_11 rfl rfl ?_
    refine j_if_ne (tgt := 20) (pc' := 15) dX12_set_12 (by decide) rfl (by omega) (fun h12 => ?_) (fun h12 => ?_)
    · refine j_iload_n (pc' := 21) (z := x) dX12_set_20 rfl rfl ?_
      refine j_iconst (pc' := 22) dX12_set_21 rfl ?_
      refine j_icmp_ne (tgt := 30) (pc' := 25) dX12_set_22 (by decide) rfl (by omega) (by omega) (fun h22 => ?_) (fun h22 => ?_)
      · refine j_iload_n (pc' := 31) (z := x) dX12_set_30 rfl rfl ?_
        refine j_iconst (pc' := 32) dX12_set_31 rfl ?_
        refine j_icmp_ne (tgt := 39) (pc' := 35) dX12_set_32 (by decide) rfl (by omega) (by omega) (fun h32 => ?_) (fun h32 => ?_)
        · refine j_bipush (pc' := 41) dX12_set_39 rfl (by decide) ?_
          refine j_callS (pc' := 44) (as := [aI v, aI 0, aI 40]) (rest := []) dX12_set_41 rfl s_Mod_49 (c_Mod_isIn (by omega) (by omega) (by omega)) rfl rfl rfl (jdet (st' := [aB (0 ≤ v ∧ v ≤ 40)]) rfl ?_)
          refine j_ifb_ne (tgt := 49) (pc' := 47) dX12_set_44 (by decide) rfl (fun h44 => ?_) (fun h44 => ?_)
          · refine j_aload_n (pc' := 50) (z := 53) dX12_set_49 rfl rfl ?_
            refine j_get (pc' := 53) (v := aR 54) dX12_set_50 rfl f_Mod_9 (by omega) hO rfl ?_
            refine j_iconst (pc' := 54) dX12_set_53 rfl ?_
            refine j_iload_n (pc' := 55) (z := x) dX12_set_54 rfl rfl ?_
            refine j_iadd (pc' := 56) dX12_set_55 rfl ?_
            refine j_iald (pc' := 57) dX12_set_56 rfl (by omega) hS (by omega) (by decide) ?_
            refine j_top (b := D 6 x) (hR.st (by omega)) ?_
            refine j_istore_n (pc' := 58) (L' := [some (aR 53), some (aI x), some (aI v), some (aI (D 6 x))]) dX12_set_57 rfl (by decide) rfl ?_
            refine j_aload_n (pc' := 59) (z := 53) dX12_set_58 rfl rfl ?_
            refine j_get (pc' := 62) (v := aR 54) dX12_set_59 rfl f_Mod_9 (by omega) hO rfl ?_
            refine j_iconst (pc' := 63) dX12_set_62 rfl ?_
            refine j_iload_n (pc' := 64) (z := x) dX12_set_63 rfl rfl ?_
            refine j_iadd (pc' := 65) dX12_set_64 rfl ?_
            refine j_iload_n (pc' := 66) (z := v) dX12_set_65 rfl rfl ?_
            refine j_iast (pc' := 67) dX12_set_66 rfl (by omega) hS (by omega) (by decide) ?_
            refine j_iload_n (pc' := 68) (z := (D 6 x)) dX12_set_67 rfl rfl ?_
            exact j_iret dX12_set_68 rfl (jM_of (by unfold chR; rw [if_pos (by omega)]) (by rw [show chD D x v = upD D 6 x v from if_pos (by omega)]; exact (hT.s (hR.set (k := x) (x := v) (by omega)))))
          · refine j_iconst (pc' := 48) dX12_set_47 rfl ?_
            exact j_iret dX12_set_48 rfl (jM_of (by unfold chR; rw [if_neg (by omega)]) (by rw [show chD D x v = D from if_neg (by omega)]; exact hT))
        · refine j_iconst (pc' := 36) dX12_set_35 rfl ?_
          refine j_goto (pc' := 41) dX12_set_36 (by decide) ?_
          refine j_callS (pc' := 44) (as := [aI v, aI 0, aI 5]) (rest := []) dX12_set_41 rfl s_Mod_49 (c_Mod_isIn (by omega) (by omega) (by omega)) rfl rfl rfl (jdet (st' := [aB (0 ≤ v ∧ v ≤ 5)]) rfl ?_)
          refine j_ifb_ne (tgt := 49) (pc' := 47) dX12_set_44 (by decide) rfl (fun h44 => ?_) (fun h44 => ?_)
          · refine j_aload_n (pc' := 50) (z := 53) dX12_set_49 rfl rfl ?_
            refine j_get (pc' := 53) (v := aR 54) dX12_set_50 rfl f_Mod_9 (by omega) hO rfl ?_
            refine j_iconst (pc' := 54) dX12_set_53 rfl ?_
            refine j_iload_n (pc' := 55) (z := x) dX12_set_54 rfl rfl ?_
            refine j_iadd (pc' := 56) dX12_set_55 rfl ?_
            refine j_iald (pc' := 57) dX12_set_56 rfl (by omega) hS (by omega) (by decide) ?_
            refine j_top (b := D 6 x) (hR.st (by omega)) ?_
            refine j_istore_n (pc' := 58) (L' := [some (aR 53), some (aI x), some (aI v), some (aI (D 6 x))]) dX12_set_57 rfl (by decide) rfl ?_
            refine j_aload_n (pc' := 59) (z := 53) dX12_set_58 rfl rfl ?_
            refine j_get (pc' := 62) (v := aR 54) dX12_set_59 rfl f_Mod_9 (by omega) hO rfl ?_
            refine j_iconst (pc' := 63) dX12_set_62 rfl ?_
            refine j_iload_n (pc' := 64) (z := x) dX12_set_63 rfl rfl ?_
            refine j_iadd (pc' := 65) dX12_set_64 rfl ?_
            refine j_iload_n (pc' := 66) (z := v) dX12_set_65 rfl rfl ?_
            refine j_iast (pc' := 67) dX12_set_66 rfl (by omega) hS (by omega) (by decide) ?_
            refine j_iload_n (pc' := 68) (z := (D 6 x)) dX12_set_67 rfl rfl ?_
            exact j_iret dX12_set_68 rfl (jM_of (by unfold chR; rw [if_pos (by omega)]) (by rw [show chD D x v = upD D 6 x v from if_pos (by omega)]; exact (hT.s (hR.set (k := x) (x := v) (by omega)))))
          · refine j_iconst (pc' := 48) dX12_set_47 rfl ?_
            exact j_iret dX12_set_48 rfl (jM_of (by unfold chR; rw [if_neg (by omega)]) (by rw [show chD D x v = D from if_neg (by omega)]; exact hT))
      · refine j_bipush (pc' := 27) dX12_set_25 rfl (by decide) ?_
        refine j_goto (pc' := 41) dX12_set_27 (by decide) ?_
        refine j_callS (pc' := 44) (as := [aI v, aI 0, aI 9]) (rest := []) dX12_set_41 rfl s_Mod_49 (c_Mod_isIn (by omega) (by omega) (by omega)) rfl rfl rfl (jdet (st' := [aB (0 ≤ v ∧ v ≤ 9)]) rfl ?_)
        refine j_ifb_ne (tgt := 49) (pc' := 47) dX12_set_44 (by decide) rfl (fun h44 => ?_) (fun h44 => ?_)
        · refine j_aload_n (pc' := 50) (z := 53) dX12_set_49 rfl rfl ?_
          refine j_get (pc' := 53) (v := aR 54) dX12_set_50 rfl f_Mod_9 (by omega) hO rfl ?_
          refine j_iconst (pc' := 54) dX12_set_53 rfl ?_
          refine j_iload_n (pc' := 55) (z := x) dX12_set_54 rfl rfl ?_
          refine j_iadd (pc' := 56) dX12_set_55 rfl ?_
          refine j_iald (pc' := 57) dX12_set_56 rfl (by omega) hS (by omega) (by decide) ?_
          refine j_top (b := D 6 x) (hR.st (by omega)) ?_
          refine j_istore_n (pc' := 58) (L' := [some (aR 53), some (aI x), some (aI v), some (aI (D 6 x))]) dX12_set_57 rfl (by decide) rfl ?_
          refine j_aload_n (pc' := 59) (z := 53) dX12_set_58 rfl rfl ?_
          refine j_get (pc' := 62) (v := aR 54) dX12_set_59 rfl f_Mod_9 (by omega) hO rfl ?_
          refine j_iconst (pc' := 63) dX12_set_62 rfl ?_
          refine j_iload_n (pc' := 64) (z := x) dX12_set_63 rfl rfl ?_
          refine j_iadd (pc' := 65) dX12_set_64 rfl ?_
          refine j_iload_n (pc' := 66) (z := v) dX12_set_65 rfl rfl ?_
          refine j_iast (pc' := 67) dX12_set_66 rfl (by omega) hS (by omega) (by decide) ?_
          refine j_iload_n (pc' := 68) (z := (D 6 x)) dX12_set_67 rfl rfl ?_
          exact j_iret dX12_set_68 rfl (jM_of (by unfold chR; rw [if_pos (by omega)]) (by rw [show chD D x v = upD D 6 x v from if_pos (by omega)]; exact (hT.s (hR.set (k := x) (x := v) (by omega)))))
        · refine j_iconst (pc' := 48) dX12_set_47 rfl ?_
          exact j_iret dX12_set_48 rfl (jM_of (by unfold chR; rw [if_neg (by omega)]) (by rw [show chD D x v = D from if_neg (by omega)]; exact hT))
    · refine j_bipush (pc' := 17) dX12_set_15 rfl (by decide) ?_
      refine j_goto (pc' := 41) dX12_set_17 (by decide) ?_
      refine j_callS (pc' := 44) (as := [aI v, aI 0, aI 99]) (rest := []) dX12_set_41 rfl s_Mod_49 (c_Mod_isIn (by omega) (by omega) (by omega)) rfl rfl rfl (jdet (st' := [aB (0 ≤ v ∧ v ≤ 99)]) rfl ?_)
      refine j_ifb_ne (tgt := 49) (pc' := 47) dX12_set_44 (by decide) rfl (fun h44 => ?_) (fun h44 => ?_)
      · refine j_aload_n (pc' := 50) (z := 53) dX12_set_49 rfl rfl ?_
        refine j_get (pc' := 53) (v := aR 54) dX12_set_50 rfl f_Mod_9 (by omega) hO rfl ?_
        refine j_iconst (pc' := 54) dX12_set_53 rfl ?_
        refine j_iload_n (pc' := 55) (z := x) dX12_set_54 rfl rfl ?_
        refine j_iadd (pc' := 56) dX12_set_55 rfl ?_
        refine j_iald (pc' := 57) dX12_set_56 rfl (by omega) hS (by omega) (by decide) ?_
        refine j_top (b := D 6 x) (hR.st (by omega)) ?_
        refine j_istore_n (pc' := 58) (L' := [some (aR 53), some (aI x), some (aI v), some (aI (D 6 x))]) dX12_set_57 rfl (by decide) rfl ?_
        refine j_aload_n (pc' := 59) (z := 53) dX12_set_58 rfl rfl ?_
        refine j_get (pc' := 62) (v := aR 54) dX12_set_59 rfl f_Mod_9 (by omega) hO rfl ?_
        refine j_iconst (pc' := 63) dX12_set_62 rfl ?_
        refine j_iload_n (pc' := 64) (z := x) dX12_set_63 rfl rfl ?_
        refine j_iadd (pc' := 65) dX12_set_64 rfl ?_
        refine j_iload_n (pc' := 66) (z := v) dX12_set_65 rfl rfl ?_
        refine j_iast (pc' := 67) dX12_set_66 rfl (by omega) hS (by omega) (by decide) ?_
        refine j_iload_n (pc' := 68) (z := (D 6 x)) dX12_set_67 rfl rfl ?_
        exact j_iret dX12_set_68 rfl (jM_of (by unfold chR; rw [if_pos (by omega)]) (by rw [show chD D x v = upD D 6 x v from if_pos (by omega)]; exact (hT.s (hR.set (k := x) (x := v) (by omega)))))
      · refine j_iconst (pc' := 48) dX12_set_47 rfl ?_
        exact j_iret dX12_set_48 rfl (jM_of (by unfold chR; rw [if_neg (by omega)]) (by rw [show chD D x v = D from if_neg (by omega)]; exact hT))
set_option maxRecDepth 100000 in
set_option maxHeartbeats 4000000 in
theorem c_Mod_drives {l : Launch} {w : AW} {D Di : Int → Int → Int} {n mi hi ni mj : Int} {sh E : Int → Int → Int} {x : Int} (hM : Mod w D n mi hi Di ni mj sh E) (hB : CarOK D n mi) (hI : CarOK Di ni mj) (hhi : hi = 0 ∨ hi = 1) (hsh : ShOK sh E) (hwd : WdOK D) (hx : inI x) : Call l m_Mod_drives false 68 68 [aR 53, aI x] w (jM w (drivesA D n mi x) (drD D n mi x) n (drM mi x) hi Di ni mj sh E) := by
  have hT := MS.rf hM
  have hM0 := hM
  obtain ⟨⟨pc, ra, re, fm, se, th, hO⟩, ⟨S, hS, hR⟩, ⟨Sm, hSm⟩, ⟨Si, hSi, hRi⟩, ⟨Sw, hSw⟩, ⟨nu, hnu⟩, ⟨ha, hha⟩, ⟨fg, hfg⟩, ke, kk, kf, so, si, el, ⟨hke, hkk, hkf, hso, hsi, hel⟩, hRel⟩ := hM
  obtain ⟨hn, hD, hs0, hs1, hs2, hs3⟩ := id hB
  refine Call.of (L := [some (aR 53), some (aI x)]) rfl (Nat.le_of_ble_eq_true rfl) rfl (fun G ad => ?_)
  refine j_iload_n (pc' := 1) (z := x) dX12_drives_0 rfl rfl ?_
  refine j_iconst (pc' := 2) dX12_drives_1 rfl ?_
  refine j_bipush (pc' := 4) dX12_drives_2 rfl (by decide) ?_
  refine j_callS (pc' := 7) (as := [aI x, aI 1, aI 99]) (rest := []) dX12_drives_4 rfl s_Mod_49 (c_Mod_isIn (by omega) (by omega) (by omega)) rfl rfl rfl (jdet (st' := [aB (1 ≤ x ∧ x ≤ 99)]) rfl ?_)
  refine j_ifb_ne (tgt := 12) (pc' := 10) dX12_drives_7 (by decide) rfl (fun h7 => ?_) (fun h7 => ?_)
  · refine j_aload_n (pc' := 13) (z := 53) dX12_drives_12 rfl rfl ?_
    refine j_get (pc' := 16) (v := aR 54) dX12_drives_13 rfl f_Mod_9 (by omega) hO rfl ?_
    refine j_iconst (pc' := 17) dX12_drives_16 rfl ?_
    refine j_iald (pc' := 18) dX12_drives_17 rfl (by omega) hS (by omega) (by decide) ?_
    refine j_top (b := mi) hR.pm ?_
    refine j_iload_n (pc' := 19) (z := x) dX12_drives_18 rfl rfl ?_
    refine j_iadd (pc' := 20) dX12_drives_19 rfl ?_
    refine j_sipush (pc' := 23) dX12_drives_20 rfl (by decide) ?_
    refine j_icmp_le (tgt := 29) (pc' := 26) dX12_drives_23 (by decide) rfl (by omega) (by omega) (fun h23 => ?_) (fun h23 => ?_)
    · refine j_aload_n (pc' := 30) (z := 53) dX12_drives_29 rfl rfl ?_
      refine j_get (pc' := 33) (v := aR 54) dX12_drives_30 rfl f_Mod_9 (by omega) hO rfl ?_
      refine j_iconst (pc' := 34) dX12_drives_33 rfl ?_
      refine j_dup2 (pc' := 35) dX12_drives_34 rfl rfl rfl ?_
      refine j_iald (pc' := 36) dX12_drives_35 rfl (by omega) hS (by omega) (by decide) ?_
      refine j_top (b := mi) hR.pm ?_
      refine j_iload_n (pc' := 37) (z := x) dX12_drives_36 rfl rfl ?_
      refine j_iadd (pc' := 38) dX12_drives_37 rfl ?_
      refine j_iast (pc' := 39) dX12_drives_38 rfl (by omega) hS (by omega) (by decide) ?_
      refine j_aload_n (pc' := 40) (z := 53) dX12_drives_39 rfl rfl ?_
      refine j_get (pc' := 43) (v := aR 54) dX12_drives_40 rfl f_Mod_9 (by omega) ((up_n (by omega)).trans hO) rfl ?_
      refine j_callS (pc' := 46) (as := [aR 54]) (rest := []) dX12_drives_43 rfl s_Mod_124 (c_Mod_drive up_s (by omega) (hR.mil (x := mi + x) (by omega)) (hB.mil (m := mi + x) (by omega)) hwd ) rfl rfl rfl (fun r9 w9 h9 => ?_)
      obtain ⟨rfl, S1, hR1, rfl⟩ := h9
      refine j_st (st' := [aI (hrd D n 0 (D 6 0))]) rfl ?_
      refine j_w (w' := up w 54 (eI 48 S1)) (by funext j9; simp only [up]; (repeat' split) <;> first | rfl | (exfalso; omega)) ?_
      exact j_iret dX12_drives_46 rfl (jM_of (by have e9 : drR mi x = 0 := (by unfold drR; rw [if_pos (by omega), if_neg (by omega)]); unfold drivesA; rw [if_pos e9]) (by rw [show drD D n mi x = endD D n from if_pos (by omega), show drM mi x = mi + x from if_pos (by omega)]; exact (hT.s hR1)))
    · refine j_bipush (pc' := 28) dX12_drives_26 rfl (by decide) ?_
      exact j_iret dX12_drives_28 rfl (jM_of (by have e9 : drR mi x = -3 := (by unfold drR; rw [if_pos (by omega), if_pos (by omega)]); unfold drivesA; rw [if_neg (by omega), e9]) (by rw [show drD D n mi x = D from if_neg (by omega), show drM mi x = mi from if_neg (by omega)]; exact hT))
  · refine j_iconst (pc' := 11) dX12_drives_10 rfl ?_
    exact j_iret dX12_drives_11 rfl (jM_of (by unfold drivesA drR; rw [if_neg (by omega)]; (repeat' split) <;> first | rfl | omega) (by rw [show drD D n mi x = D from if_neg (by omega), show drM mi x = mi from if_neg (by omega)]; exact hT))
set_option maxRecDepth 100000 in
set_option maxHeartbeats 4000000 in
theorem c_Mod_heard {l : Launch} {w : AW} {D Di : Int → Int → Int} {n mi hi ni mj : Int} {sh E : Int → Int → Int} {s p : Int} (hM : Mod w D n mi hi Di ni mj sh E) (hB : CarOK D n mi) (hI : CarOK Di ni mj) (hhi : hi = 0 ∨ hi = 1) (hsh : ShOK sh E) (hwd : WdOK D) (hs : inI s) (hp : inI p) : Call l m_Mod_heard false 68 68 [aR 53, aI s, aI p] w (jM w (heardA D n s p) D n mi hi Di ni mj sh E) := by
  have hT := MS.rf hM
  have hM0 := hM
  obtain ⟨⟨pc, ra, re, fm, se, th, hO⟩, ⟨S, hS, hR⟩, ⟨Sm, hSm⟩, ⟨Si, hSi, hRi⟩, ⟨Sw, hSw⟩, ⟨nu, hnu⟩, ⟨ha, hha⟩, ⟨fg, hfg⟩, ke, kk, kf, so, si, el, ⟨hke, hkk, hkf, hso, hsi, hel⟩, hRel⟩ := hM
  obtain ⟨hn, hD, hs0, hs1, hs2, hs3⟩ := id hB
  refine Call.of (L := [some (aR 53), some (aI s), some (aI p)]) rfl (Nat.le_of_ble_eq_true rfl) rfl (fun G ad => ?_)
  refine j_iload_n (pc' := 1) (z := s) dX12_heard_0 rfl rfl ?_
  refine j_callS (pc' := 4) (as := [aI s]) (rest := []) dX12_heard_1 rfl s_Mod_111 (c_Mod_isSeat (by omega)) rfl rfl rfl (jdet (st' := [aB (0 ≤ s ∧ s ≤ 3)]) rfl ?_)
  refine j_ifb_eq (tgt := 29) (pc' := 7) dX12_heard_4 (by decide) rfl (fun h4 => ?_) (fun h4 => ?_)
  · refine j_iconst (pc' := 30) dX12_heard_29 rfl ?_
    exact j_iret dX12_heard_30 rfl (jM_of (by unfold heardA; (repeat' split) <;> first | rfl | omega) hT)
  · refine j_iload_n (pc' := 8) (z := p) dX12_heard_7 rfl rfl ?_
    refine j_iconst (pc' := 9) dX12_heard_8 rfl ?_
    refine j_bipush (pc' := 11) dX12_heard_9 rfl (by decide) ?_
    refine j_callS (pc' := 14) (as := [aI p, aI 0, aI 99]) (rest := []) dX12_heard_11 rfl s_Mod_49 (c_Mod_isIn (by omega) (by omega) (by omega)) rfl rfl rfl (jdet (st' := [aB (0 ≤ p ∧ p ≤ 99)]) rfl ?_)
    refine j_ifb_eq (tgt := 29) (pc' := 17) dX12_heard_14 (by decide) rfl (fun h14 => ?_) (fun h14 => ?_)
    · refine j_iconst (pc' := 30) dX12_heard_29 rfl ?_
      exact j_iret dX12_heard_30 rfl (jM_of (by unfold heardA; (repeat' split) <;> first | rfl | omega) hT)
    · refine j_aload_n (pc' := 18) (z := 53) dX12_heard_17 rfl rfl ?_
      refine j_get (pc' := 21) (v := aR 54) dX12_heard_18 rfl f_Mod_9 (by omega) hO rfl ?_
      refine j_iload_n (pc' := 22) (z := s) dX12_heard_21 rfl rfl ?_
      refine j_iload_n (pc' := 23) (z := p) dX12_heard_22 rfl rfl ?_
      refine j_callS (pc' := 26) (as := [aR 54, aI s, aI p]) (rest := []) dX12_heard_23 rfl s_Mod_74 (c_Mod_heardAt hS (by omega) hR.w hB (by omega) (by omega)) rfl rfl rfl (jdet (st' := [aI (hrd D n s p)]) rfl ?_)
      refine j_goto (pc' := 30) dX12_heard_26 (by decide) ?_
      exact j_iret dX12_heard_30 rfl (jM_of (by unfold heardA; (repeat' split) <;> first | rfl | omega) hT)
set_option maxRecDepth 100000 in
set_option maxHeartbeats 4000000 in
theorem c_Mod_loudest {l : Launch} {w : AW} {D Di : Int → Int → Int} {n mi hi ni mj : Int} {sh E : Int → Int → Int} {s : Int} (hM : Mod w D n mi hi Di ni mj sh E) (hB : CarOK D n mi) (hI : CarOK Di ni mj) (hhi : hi = 0 ∨ hi = 1) (hsh : ShOK sh E) (hwd : WdOK D) (hs : inI s) : Call l m_Mod_loudest false 68 68 [aR 53, aI s] w (jM w (loudestA D n s) D n mi hi Di ni mj sh E) := by
  have hT := MS.rf hM
  have hM0 := hM
  obtain ⟨⟨pc, ra, re, fm, se, th, hO⟩, ⟨S, hS, hR⟩, ⟨Sm, hSm⟩, ⟨Si, hSi, hRi⟩, ⟨Sw, hSw⟩, ⟨nu, hnu⟩, ⟨ha, hha⟩, ⟨fg, hfg⟩, ke, kk, kf, so, si, el, ⟨hke, hkk, hkf, hso, hsi, hel⟩, hRel⟩ := hM
  obtain ⟨hn, hD, hs0, hs1, hs2, hs3⟩ := id hB
  refine Call.of (L := [some (aR 53), some (aI s)]) rfl (Nat.le_of_ble_eq_true rfl) rfl (fun G ad => ?_)
  refine j_iload_n (pc' := 1) (z := s) dX12_loudest_0 rfl rfl ?_
  refine j_callS (pc' := 4) (as := [aI s]) (rest := []) dX12_loudest_1 rfl s_Mod_111 (c_Mod_isSeat (by omega)) rfl rfl rfl (jdet (st' := [aB (0 ≤ s ∧ s ≤ 3)]) rfl ?_)
  refine j_ifb_eq (tgt := 18) (pc' := 7) dX12_loudest_4 (by decide) rfl (fun h4 => ?_) (fun h4 => ?_)
  · refine j_iconst (pc' := 19) dX12_loudest_18 rfl ?_
    exact j_iret dX12_loudest_19 rfl (jM_of (by unfold loudestA; (repeat' split) <;> first | rfl | omega) hT)
  · refine j_aload_n (pc' := 8) (z := 53) dX12_loudest_7 rfl rfl ?_
    refine j_get (pc' := 11) (v := aR 54) dX12_loudest_8 rfl f_Mod_9 (by omega) hO rfl ?_
    refine j_iload_n (pc' := 12) (z := s) dX12_loudest_11 rfl rfl ?_
    refine j_callS (pc' := 15) (as := [aR 54, aI s]) (rest := []) dX12_loudest_12 rfl s_Mod_150 (c_Mod_loudestAt hS (by omega) hR.w hB (by omega)) rfl rfl rfl (jdet (st' := [aI ((lst D n s).1)]) rfl ?_)
    refine j_goto (pc' := 19) dX12_loudest_15 (by decide) ?_
    exact j_iret dX12_loudest_19 rfl (jM_of (by unfold loudestA; (repeat' split) <;> first | rfl | omega) hT)
set_option maxRecDepth 100000 in
set_option maxHeartbeats 4000000 in
theorem c_Mod_radio {l : Launch} {w : AW} {D Di : Int → Int → Int} {n mi hi ni mj : Int} {sh E : Int → Int → Int} {s : Int} (hM : Mod w D n mi hi Di ni mj sh E) (hB : CarOK D n mi) (hI : CarOK Di ni mj) (hhi : hi = 0 ∨ hi = 1) (hsh : ShOK sh E) (hwd : WdOK D) (hs : inI s) : Call l m_Mod_radio false 68 68 [aR 53, aI s] w (jM w (radioA D n s) D n mi hi Di ni mj sh E) := by
  have hT := MS.rf hM
  have hM0 := hM
  obtain ⟨⟨pc, ra, re, fm, se, th, hO⟩, ⟨S, hS, hR⟩, ⟨Sm, hSm⟩, ⟨Si, hSi, hRi⟩, ⟨Sw, hSw⟩, ⟨nu, hnu⟩, ⟨ha, hha⟩, ⟨fg, hfg⟩, ke, kk, kf, so, si, el, ⟨hke, hkk, hkf, hso, hsi, hel⟩, hRel⟩ := hM
  obtain ⟨hn, hD, hs0, hs1, hs2, hs3⟩ := id hB
  refine Call.of (L := [some (aR 53), some (aI s), none]) rfl (Nat.le_of_ble_eq_true rfl) rfl (fun G ad => ?_)
  refine j_iload_n (pc' := 1) (z := s) dX12_radio_0 rfl rfl ?_
  refine j_callS (pc' := 4) (as := [aI s]) (rest := []) dX12_radio_1 rfl s_Mod_111 (c_Mod_isSeat (by omega)) rfl rfl rfl (jdet (st' := [aB (0 ≤ s ∧ s ≤ 3)]) rfl ?_)
  refine j_ifb_ne (tgt := 9) (pc' := 7) dX12_radio_4 (by decide) rfl (fun h4 => ?_) (fun h4 => ?_)
  · refine j_aload_n (pc' := 10) (z := 53) dX12_radio_9 rfl rfl ?_
    refine j_get (pc' := 13) (v := aR 54) dX12_radio_10 rfl f_Mod_9 (by omega) hO rfl ?_
    refine j_iload_n (pc' := 14) (z := s) dX12_radio_13 rfl rfl ?_
    refine j_aload_n (pc' := 15) (z := 53) dX12_radio_14 rfl rfl ?_
    refine j_get (pc' := 18) (v := aR 54) dX12_radio_15 rfl f_Mod_9 (by omega) hO rfl ?_
    refine j_iconst (pc' := 19) dX12_radio_18 rfl ?_
    refine j_iald (pc' := 20) dX12_radio_19 rfl (by omega) hS (by omega) (by decide) ?_
    refine j_top (b := D 6 0) hR.s0 ?_
    refine j_callS (pc' := 23) (as := [aR 54, aI s, aI (D 6 0)]) (rest := []) dX12_radio_20 rfl s_Mod_71 (c_Mod_soundAt hS (by omega) hR.w hB (by omega) (by omega)) rfl rfl rfl (jdet (st' := [aI (sumI (fun p => snd D p s (D 6 0)) n)]) rfl ?_)
    refine j_istore_n (pc' := 24) (L' := [some (aR 53), some (aI s), some (aI (sumI (fun p => snd D p s (D 6 0)) n))]) dX12_radio_23 rfl (by decide) rfl ?_
    have hsb := sab_bd (set := 0) (seat := s) (pace := D 6 0) hB
    rw [sab0] at hsb
    refine j_iload_n (pc' := 25) (z := (sumI (fun p => snd D p s (D 6 0)) n)) dX12_radio_24 rfl rfl ?_
    refine j_bipush (pc' := 27) dX12_radio_25 rfl (by decide) ?_
    refine j_icmp_le (tgt := 35) (pc' := 30) dX12_radio_27 (by decide) rfl (by omega) (by omega) (fun h27 => ?_) (fun h27 => ?_)
    · refine j_iload_n (pc' := 36) (z := (sumI (fun p => snd D p s (D 6 0)) n)) dX12_radio_35 rfl rfl ?_
      exact j_iret dX12_radio_36 rfl (jM_of (by unfold radioA; (repeat' split) <;> first | rfl | omega) hT)
    · refine j_bipush (pc' := 32) dX12_radio_30 rfl (by decide) ?_
      refine j_goto (pc' := 36) dX12_radio_32 (by decide) ?_
      exact j_iret dX12_radio_36 rfl (jM_of (by unfold radioA; (repeat' split) <;> first | rfl | omega) hT)
  · refine j_iconst (pc' := 8) dX12_radio_7 rfl ?_
    exact j_iret dX12_radio_8 rfl (jM_of (by unfold radioA; (repeat' split) <;> first | rfl | omega) hT)
set_option maxRecDepth 100000 in
set_option maxHeartbeats 4000000 in
theorem c_Mod_paces {l : Launch} {w : AW} {D Di : Int → Int → Int} {n mi hi ni mj : Int} {sh E : Int → Int → Int} {s x : Int} (hM : Mod w D n mi hi Di ni mj sh E) (hB : CarOK D n mi) (hI : CarOK Di ni mj) (hhi : hi = 0 ∨ hi = 1) (hsh : ShOK sh E) (hwd : WdOK D) (hs : inI s) (hx : inI x) : Call l m_Mod_paces false 68 68 [aR 53, aI s, aI x] w (jM w (pacesA D n s x) D n mi hi Di ni mj sh E) := by
  have hT := MS.rf hM
  have hM0 := hM
  obtain ⟨⟨pc, ra, re, fm, se, th, hO⟩, ⟨S, hS, hR⟩, ⟨Sm, hSm⟩, ⟨Si, hSi, hRi⟩, ⟨Sw, hSw⟩, ⟨nu, hnu⟩, ⟨ha, hha⟩, ⟨fg, hfg⟩, ke, kk, kf, so, si, el, ⟨hke, hkk, hkf, hso, hsi, hel⟩, hRel⟩ := hM
  obtain ⟨hn, hD, hs0, hs1, hs2, hs3⟩ := id hB
  refine Call.of (L := [some (aR 53), some (aI s), some (aI x), none, none, none, none]) rfl (Nat.le_of_ble_eq_true rfl) rfl (fun G ad => ?_)
  refine j_iload_n (pc' := 1) (z := s) dX12_paces_0 rfl rfl ?_
  refine j_callS (pc' := 4) (as := [aI s]) (rest := []) dX12_paces_1 rfl s_Mod_111 (c_Mod_isSeat (by omega)) rfl rfl rfl (jdet (st' := [aB (0 ≤ s ∧ s ≤ 3)]) rfl ?_)
  refine j_ifb_eq (tgt := 16) (pc' := 7) dX12_paces_4 (by decide) rfl (fun h4 => ?_) (fun h4 => ?_)
  · refine j_iconst (pc' := 17) dX12_paces_16 rfl ?_
    exact j_iret dX12_paces_17 rfl (jM_of (by unfold pacesA; (repeat' split) <;> first | rfl | omega) hT)
  · refine j_iload_n (pc' := 8) (z := x) dX12_paces_7 rfl rfl ?_
    refine j_iconst (pc' := 9) dX12_paces_8 rfl ?_
    refine j_iconst (pc' := 10) dX12_paces_9 rfl ?_
    refine j_callS (pc' := 13) (as := [aI x, aI 0, aI 2]) (rest := []) dX12_paces_10 rfl s_Mod_49 (c_Mod_isIn (by omega) (by omega) (by omega)) rfl rfl rfl (jdet (st' := [aB (0 ≤ x ∧ x ≤ 2)]) rfl ?_)
    refine j_ifb_ne (tgt := 18) (pc' := 16) dX12_paces_13 (by decide) rfl (fun h13 => ?_) (fun h13 => ?_)
    · refine j_iconst (pc' := 19) dX12_paces_18 rfl ?_
      refine j_istore_n (pc' := 20) (L' := [some (aR 53), some (aI s), some (aI x), some (aI 0), none, none, none]) dX12_paces_19 rfl (by decide) rfl ?_
      refine j_bipush (pc' := 22) dX12_paces_20 rfl (by decide) ?_
      refine j_istore (pc' := 24) (L' := [some (aR 53), some (aI s), some (aI x), some (aI 0), some (aI (-4)), none, none]) dX12_paces_22 rfl (by decide) rfl ?_
      refine j_bipush (pc' := 26) dX12_paces_24 rfl (by decide) ?_
      refine j_istore (pc' := 28) (L' := [some (aR 53), some (aI s), some (aI x), some (aI 0), some (aI (-4)), some (aI (-4)), none]) dX12_paces_26 rfl (by decide) rfl ?_
      refine j_iconst (pc' := 29) dX12_paces_28 rfl ?_
      refine j_istore (pc' := 31) (L' := [some (aR 53), some (aI s), some (aI x), some (aI 0), some (aI (-4)), some (aI (-4)), some (aI 0)]) dX12_paces_29 rfl (by decide) rfl ?_
      have lp31 : ∀ (k9 : Nat) (v : Int) (a : Int) (b : Int) (i : Int), (0 ≤ i ∧ i ≤ 100) → ((v, a, b) = pacF D n s i) → ((0 ≤ v ∧ v ≤ 1000) ∧ (-4 ≤ a ∧ a ≤ 100) ∧ (-4 ≤ b ∧ b ≤ 100) ∧ v ≤ i ∧ (v = 0 ↔ a = -4)) → ((100 - i).toNat) = k9 → J l m_Mod_paces ad G [] false (jZ ad G false 68 m_Mod_paces.2.2.2.2.cells m_Mod_paces.2.2.2.2.slots (jM w (pacesA D n s x) D n mi hi Di ni mj sh E)) 68 0 0 31 [some (aR 53), some (aI s), some (aI x), some (aI v), some (aI a), some (aI b), some (aI i)] [] w := by
        intro k9
        induction k9 using Nat.strongRecOn with
        | _ k9 ih31 =>
          intro v a b i hi9 hv hvb hk31
          refine j_iload (pc' := 33) (z := i) dX12_paces_31 rfl rfl ?_
          refine j_bipush (pc' := 35) dX12_paces_33 rfl (by decide) ?_
          refine j_icmp_ge (tgt := 80) (pc' := 38) dX12_paces_35 (by decide) rfl (by omega) (by omega) (fun h35 => ?_) (fun h35 => ?_)
          · refine j_iload_n (pc' := 81) (z := x) dX12_paces_80 rfl rfl ?_
            refine j_if_ne (tgt := 88) (pc' := 84) dX12_paces_81 (by decide) rfl (by omega) (fun h81 => ?_) (fun h81 => ?_)
            · refine j_iload_n (pc' := 89) (z := x) dX12_paces_88 rfl rfl ?_
              refine j_iconst (pc' := 90) dX12_paces_89 rfl ?_
              refine j_icmp_ne (tgt := 98) (pc' := 93) dX12_paces_90 (by decide) rfl (by omega) (by omega) (fun h90 => ?_) (fun h90 => ?_)
              · refine j_iload (pc' := 100) (z := b) dX12_paces_98 rfl rfl ?_
                exact j_iret dX12_paces_100 rfl (jM_of (by unfold pacesA; rw [if_pos (by omega), ← show i = 100 by omega, ← hv]; dsimp only; (repeat' split) <;> first | rfl | omega) hT)
              · refine j_iload (pc' := 95) (z := a) dX12_paces_93 rfl rfl ?_
                refine j_goto (pc' := 100) dX12_paces_95 (by decide) ?_
                exact j_iret dX12_paces_100 rfl (jM_of (by unfold pacesA; rw [if_pos (by omega), ← show i = 100 by omega, ← hv]; dsimp only; (repeat' split) <;> first | rfl | omega) hT)
            · refine j_iload_n (pc' := 85) (z := v) dX12_paces_84 rfl rfl ?_
              refine j_goto (pc' := 100) dX12_paces_85 (by decide) ?_
              exact j_iret dX12_paces_100 rfl (jM_of (by unfold pacesA; rw [if_pos (by omega), ← show i = 100 by omega, ← hv]; dsimp only; (repeat' split) <;> first | rfl | omega) hT)
          · refine j_aload_n (pc' := 39) (z := 53) dX12_paces_38 rfl rfl ?_
            refine j_get (pc' := 42) (v := aR 54) dX12_paces_39 rfl f_Mod_9 (by omega) hO rfl ?_
            refine j_iload_n (pc' := 43) (z := s) dX12_paces_42 rfl rfl ?_
            refine j_iload (pc' := 45) (z := i) dX12_paces_43 rfl rfl ?_
            refine j_callS (pc' := 48) (as := [aR 54, aI s, aI i]) (rest := []) dX12_paces_45 rfl s_Mod_74 (c_Mod_heardAt hS (by omega) hR.w hB (by omega) (by omega)) rfl rfl rfl (jdet (st' := [aI (hrd D n s i)]) rfl ?_)
            have hhb := hrd_bd (seat := s) (pace := i) hB
            refine j_if_ne (tgt := 54) (pc' := 51) dX12_paces_48 (by decide) rfl (by omega) (fun h48 => ?_) (fun h48 => ?_)
            · refine j_iload_n (pc' := 55) (z := v) dX12_paces_54 rfl rfl ?_
              refine j_if_ne (tgt := 63) (pc' := 58) dX12_paces_55 (by decide) rfl (by omega) (fun h55 => ?_) (fun h55 => ?_)
              · refine j_iload (pc' := 65) (z := a) dX12_paces_63 rfl rfl ?_
                refine j_istore (pc' := 67) (L' := [some (aR 53), some (aI s), some (aI x), some (aI v), some (aI a), some (aI b), some (aI i)]) dX12_paces_65 rfl (by decide) rfl ?_
                refine j_iload (pc' := 69) (z := i) dX12_paces_67 rfl rfl ?_
                refine j_istore (pc' := 71) (L' := [some (aR 53), some (aI s), some (aI x), some (aI v), some (aI a), some (aI i), some (aI i)]) dX12_paces_69 rfl (by decide) rfl ?_
                refine j_iinc (pc' := 74) (z := v) (L' := [some (aR 53), some (aI s), some (aI x), some (aI (v + 1)), some (aI a), some (aI i), some (aI i)]) dX12_paces_71 rfl (by decide) rfl rfl rfl ?_
                refine j_iinc (pc' := 77) (z := i) (L' := [some (aR 53), some (aI s), some (aI x), some (aI (v + 1)), some (aI a), some (aI i), some (aI (i + 1))]) dX12_paces_74 rfl (by decide) rfl rfl rfl ?_
                refine j_goto (pc' := 31) dX12_paces_77 (by decide) ?_
                exact ih31 _ (by omega) (v + 1) a i (i + 1) (by omega) (by unfold pacF at hv ⊢; rw [foldI_s (by omega), ← hv]; unfold pacH; first | (rw [if_pos (by omega)]; dsimp only; first | rw [if_pos (by omega)] | rw [if_neg (by omega)]) | rw [if_neg (by omega)]) (by omega) rfl
              · refine j_iload (pc' := 60) (z := i) dX12_paces_58 rfl rfl ?_
                refine j_goto (pc' := 65) dX12_paces_60 (by decide) ?_
                refine j_istore (pc' := 67) (L' := [some (aR 53), some (aI s), some (aI x), some (aI v), some (aI i), some (aI b), some (aI i)]) dX12_paces_65 rfl (by decide) rfl ?_
                refine j_iload (pc' := 69) (z := i) dX12_paces_67 rfl rfl ?_
                refine j_istore (pc' := 71) (L' := [some (aR 53), some (aI s), some (aI x), some (aI v), some (aI i), some (aI i), some (aI i)]) dX12_paces_69 rfl (by decide) rfl ?_
                refine j_iinc (pc' := 74) (z := v) (L' := [some (aR 53), some (aI s), some (aI x), some (aI (v + 1)), some (aI i), some (aI i), some (aI i)]) dX12_paces_71 rfl (by decide) rfl rfl rfl ?_
                refine j_iinc (pc' := 77) (z := i) (L' := [some (aR 53), some (aI s), some (aI x), some (aI (v + 1)), some (aI i), some (aI i), some (aI (i + 1))]) dX12_paces_74 rfl (by decide) rfl rfl rfl ?_
                refine j_goto (pc' := 31) dX12_paces_77 (by decide) ?_
                exact ih31 _ (by omega) (v + 1) i i (i + 1) (by omega) (by unfold pacF at hv ⊢; rw [foldI_s (by omega), ← hv]; unfold pacH; first | (rw [if_pos (by omega)]; dsimp only; first | rw [if_pos (by omega)] | rw [if_neg (by omega)]) | rw [if_neg (by omega)]) (by omega) rfl
            · refine j_goto (pc' := 74) dX12_paces_51 (by decide) ?_
              refine j_iinc (pc' := 77) (z := i) (L' := [some (aR 53), some (aI s), some (aI x), some (aI v), some (aI a), some (aI b), some (aI (i + 1))]) dX12_paces_74 rfl (by decide) rfl rfl rfl ?_
              refine j_goto (pc' := 31) dX12_paces_77 (by decide) ?_
              exact ih31 _ (by omega) v a b (i + 1) (by omega) (by unfold pacF at hv ⊢; rw [foldI_s (by omega), ← hv]; unfold pacH; first | (rw [if_pos (by omega)]; dsimp only; first | rw [if_pos (by omega)] | rw [if_neg (by omega)]) | rw [if_neg (by omega)]) (by omega) rfl
      exact lp31 _ 0 (-4) (-4) 0 (by omega) (by rfl) (by omega) rfl
    · refine j_iconst (pc' := 17) dX12_paces_16 rfl ?_
      exact j_iret dX12_paces_17 rfl (jM_of (by unfold pacesA; (repeat' split) <;> first | rfl | omega) hT)
set_option maxRecDepth 100000 in
set_option maxHeartbeats 4000000 in
theorem c_Mod_silentFrom {l : Launch} {w : AW} {D Di : Int → Int → Int} {n mi hi ni mj : Int} {sh E : Int → Int → Int} {s p : Int} (hM : Mod w D n mi hi Di ni mj sh E) (hB : CarOK D n mi) (hI : CarOK Di ni mj) (hhi : hi = 0 ∨ hi = 1) (hsh : ShOK sh E) (hwd : WdOK D) (hs : inI s) (hp : inI p) : Call l m_Mod_silentFrom false 68 68 [aR 53, aI s, aI p] w (jM w (silA D n s p) D n mi hi Di ni mj sh E) := by
  have hT := MS.rf hM
  have hM0 := hM
  obtain ⟨⟨pc, ra, re, fm, se, th, hO⟩, ⟨S, hS, hR⟩, ⟨Sm, hSm⟩, ⟨Si, hSi, hRi⟩, ⟨Sw, hSw⟩, ⟨nu, hnu⟩, ⟨ha, hha⟩, ⟨fg, hfg⟩, ke, kk, kf, so, si, el, ⟨hke, hkk, hkf, hso, hsi, hel⟩, hRel⟩ := hM
  obtain ⟨hn, hD, hs0, hs1, hs2, hs3⟩ := id hB
  refine Call.of (L := [some (aR 53), some (aI s), some (aI p), none]) rfl (Nat.le_of_ble_eq_true rfl) rfl (fun G ad => ?_)
  refine j_iload_n (pc' := 1) (z := s) dX12_silentFrom_0 rfl rfl ?_
  refine j_callS (pc' := 4) (as := [aI s]) (rest := []) dX12_silentFrom_1 rfl s_Mod_111 (c_Mod_isSeat (by omega)) rfl rfl rfl (jdet (st' := [aB (0 ≤ s ∧ s ≤ 3)]) rfl ?_)
  refine j_ifb_eq (tgt := 17) (pc' := 7) dX12_silentFrom_4 (by decide) rfl (fun h4 => ?_) (fun h4 => ?_)
  · refine j_iconst (pc' := 18) dX12_silentFrom_17 rfl ?_
    exact j_iret dX12_silentFrom_18 rfl (jM_of (by unfold silA; (repeat' split) <;> first | rfl | omega) hT)
  · refine j_iload_n (pc' := 8) (z := p) dX12_silentFrom_7 rfl rfl ?_
    refine j_iconst (pc' := 9) dX12_silentFrom_8 rfl ?_
    refine j_bipush (pc' := 11) dX12_silentFrom_9 rfl (by decide) ?_
    refine j_callS (pc' := 14) (as := [aI p, aI 0, aI 99]) (rest := []) dX12_silentFrom_11 rfl s_Mod_49 (c_Mod_isIn (by omega) (by omega) (by omega)) rfl rfl rfl (jdet (st' := [aB (0 ≤ p ∧ p ≤ 99)]) rfl ?_)
    refine j_ifb_ne (tgt := 19) (pc' := 17) dX12_silentFrom_14 (by decide) rfl (fun h14 => ?_) (fun h14 => ?_)
    · refine j_iload_n (pc' := 20) (z := p) dX12_silentFrom_19 rfl rfl ?_
      refine j_istore_n (pc' := 21) (L' := [some (aR 53), some (aI s), some (aI p), some (aI p)]) dX12_silentFrom_20 rfl (by decide) rfl ?_
      have lp21 : ∀ (k9 : Nat) (i : Int), (p ≤ i ∧ i ≤ 100) → (silA D n s p = fstI (fun x => decide (hrd D n s x = 0)) i (100 - i).toNat) → ((100 - i).toNat) = k9 → J l m_Mod_silentFrom ad G [] false (jZ ad G false 68 m_Mod_silentFrom.2.2.2.2.cells m_Mod_silentFrom.2.2.2.2.slots (jM w (silA D n s p) D n mi hi Di ni mj sh E)) 68 0 0 21 [some (aR 53), some (aI s), some (aI p), some (aI i)] [] w := by
        intro k9
        induction k9 using Nat.strongRecOn with
        | _ k9 ih21 =>
          intro i hi9 hv hk21
          refine j_iload_n (pc' := 22) (z := i) dX12_silentFrom_21 rfl rfl ?_
          refine j_bipush (pc' := 24) dX12_silentFrom_22 rfl (by decide) ?_
          refine j_icmp_ge (tgt := 47) (pc' := 27) dX12_silentFrom_24 (by decide) rfl (by omega) (by omega) (fun h24 => ?_) (fun h24 => ?_)
          · refine j_bipush (pc' := 49) dX12_silentFrom_47 rfl (by decide) ?_
            exact j_iret dX12_silentFrom_49 rfl (jM_of (by rw [hv, fstI_z (by omega)]) hT)
          · refine j_aload_n (pc' := 28) (z := 53) dX12_silentFrom_27 rfl rfl ?_
            refine j_get (pc' := 31) (v := aR 54) dX12_silentFrom_28 rfl f_Mod_9 (by omega) hO rfl ?_
            refine j_iload_n (pc' := 32) (z := s) dX12_silentFrom_31 rfl rfl ?_
            refine j_iload_n (pc' := 33) (z := i) dX12_silentFrom_32 rfl rfl ?_
            refine j_callS (pc' := 36) (as := [aR 54, aI s, aI i]) (rest := []) dX12_silentFrom_33 rfl s_Mod_74 (c_Mod_heardAt hS (by omega) hR.w hB (by omega) (by omega)) rfl rfl rfl (jdet (st' := [aI (hrd D n s i)]) rfl ?_)
            have hhb := hrd_bd (seat := s) (pace := i) hB
            refine j_if_ne (tgt := 41) (pc' := 39) dX12_silentFrom_36 (by decide) rfl (by omega) (fun h36 => ?_) (fun h36 => ?_)
            · refine j_iinc (pc' := 44) (z := i) (L' := [some (aR 53), some (aI s), some (aI p), some (aI (i + 1))]) dX12_silentFrom_41 rfl (by decide) rfl rfl rfl ?_
              refine j_goto (pc' := 21) dX12_silentFrom_44 (by decide) ?_
              exact ih21 _ (by omega) (i + 1) (by omega) (by rw [hv, fstI_n (by omega) (by rw [decide_eq_true_iff]; omega)]) rfl
            · refine j_iload_n (pc' := 40) (z := i) dX12_silentFrom_39 rfl rfl ?_
              exact j_iret dX12_silentFrom_40 rfl (jM_of (by rw [hv, fstI_y (by omega) (decide_eq_true h36)]) hT)
      exact lp21 _ p (by omega) (by unfold silA; rw [if_pos (by omega)]) rfl
    · refine j_iconst (pc' := 18) dX12_silentFrom_17 rfl ?_
      exact j_iret dX12_silentFrom_18 rfl (jM_of (by unfold silA; (repeat' split) <;> first | rfl | omega) hT)
set_option maxRecDepth 100000 in
set_option maxHeartbeats 4000000 in
theorem c_Mod_bestSeat {l : Launch} {w : AW} {D Di : Int → Int → Int} {n mi hi ni mj : Int} {sh E : Int → Int → Int}  (hM : Mod w D n mi hi Di ni mj sh E) (hB : CarOK D n mi) (hI : CarOK Di ni mj) (hhi : hi = 0 ∨ hi = 1) (hsh : ShOK sh E) (hwd : WdOK D)  : Call l m_Mod_bestSeat false 68 68 [aR 53] w (jM w (bestA D n) D n mi hi Di ni mj sh E) := by
  have hT := MS.rf hM
  have hM0 := hM
  obtain ⟨⟨pc, ra, re, fm, se, th, hO⟩, ⟨S, hS, hR⟩, ⟨Sm, hSm⟩, ⟨Si, hSi, hRi⟩, ⟨Sw, hSw⟩, ⟨nu, hnu⟩, ⟨ha, hha⟩, ⟨fg, hfg⟩, ke, kk, kf, so, si, el, ⟨hke, hkk, hkf, hso, hsi, hel⟩, hRel⟩ := hM
  obtain ⟨hn, hD, hs0, hs1, hs2, hs3⟩ := id hB
  refine Call.of (L := [some (aR 53), none, none]) rfl (Nat.le_of_ble_eq_true rfl) rfl (fun G ad => ?_)
  refine j_iconst (pc' := 1) dX12_bestSeat_0 rfl ?_
  refine j_istore_n (pc' := 2) (L' := [some (aR 53), some (aI 0), none]) dX12_bestSeat_1 rfl (by decide) rfl ?_
  refine j_iconst (pc' := 3) dX12_bestSeat_2 rfl ?_
  refine j_istore_n (pc' := 4) (L' := [some (aR 53), some (aI 0), some (aI 1)]) dX12_bestSeat_3 rfl (by decide) rfl ?_
  have lp4 : ∀ (k9 : Nat) (b : Int) (i : Int), (1 ≤ i ∧ i ≤ 4) → (b = foldI (bestH D n) 0 (i - 1)) → (0 ≤ b ∧ b ≤ 3) → ((4 - i).toNat) = k9 → J l m_Mod_bestSeat ad G [] false (jZ ad G false 68 m_Mod_bestSeat.2.2.2.2.cells m_Mod_bestSeat.2.2.2.2.slots (jM w (bestA D n) D n mi hi Di ni mj sh E)) 68 0 0 4 [some (aR 53), some (aI b), some (aI i)] [] w := by
    intro k9
    induction k9 using Nat.strongRecOn with
    | _ k9 ih4 =>
      intro b i hi9 hv hvb hk4
      refine j_iload_n (pc' := 5) (z := i) dX12_bestSeat_4 rfl rfl ?_
      refine j_iconst (pc' := 6) dX12_bestSeat_5 rfl ?_
      refine j_icmp_ge (tgt := 48) (pc' := 9) dX12_bestSeat_6 (by decide) rfl (by omega) (by omega) (fun h6 => ?_) (fun h6 => ?_)
      · refine j_iload_n (pc' := 49) (z := b) dX12_bestSeat_48 rfl rfl ?_
        exact j_iret dX12_bestSeat_49 rfl (jM_of (by rw [hv, show i - 1 = 3 by omega]; rfl) hT)
      · refine j_aload_n (pc' := 10) (z := 53) dX12_bestSeat_9 rfl rfl ?_
        refine j_get (pc' := 13) (v := aR 54) dX12_bestSeat_10 rfl f_Mod_9 (by omega) hO rfl ?_
        refine j_iload_n (pc' := 14) (z := i) dX12_bestSeat_13 rfl rfl ?_
        refine j_aload_n (pc' := 15) (z := 53) dX12_bestSeat_14 rfl rfl ?_
        refine j_get (pc' := 18) (v := aR 54) dX12_bestSeat_15 rfl f_Mod_9 (by omega) hO rfl ?_
        refine j_iconst (pc' := 19) dX12_bestSeat_18 rfl ?_
        refine j_iald (pc' := 20) dX12_bestSeat_19 rfl (by omega) hS (by omega) (by decide) ?_
        refine j_top (b := D 6 0) hR.s0 ?_
        refine j_callS (pc' := 23) (as := [aR 54, aI i, aI (D 6 0)]) (rest := []) dX12_bestSeat_20 rfl s_Mod_74 (c_Mod_heardAt hS (by omega) hR.w hB (by omega) (by omega)) rfl rfl rfl (jdet (st' := [aI (hrd D n i (D 6 0))]) rfl ?_)
        refine j_aload_n (pc' := 24) (z := 53) dX12_bestSeat_23 rfl rfl ?_
        refine j_get (pc' := 27) (v := aR 54) dX12_bestSeat_24 rfl f_Mod_9 (by omega) hO rfl ?_
        refine j_iload_n (pc' := 28) (z := b) dX12_bestSeat_27 rfl rfl ?_
        refine j_aload_n (pc' := 29) (z := 53) dX12_bestSeat_28 rfl rfl ?_
        refine j_get (pc' := 32) (v := aR 54) dX12_bestSeat_29 rfl f_Mod_9 (by omega) hO rfl ?_
        refine j_iconst (pc' := 33) dX12_bestSeat_32 rfl ?_
        refine j_iald (pc' := 34) dX12_bestSeat_33 rfl (by omega) hS (by omega) (by decide) ?_
        refine j_top (b := D 6 0) hR.s0 ?_
        refine j_callS (pc' := 37) (as := [aR 54, aI b, aI (D 6 0)]) (rest := [aI (hrd D n i (D 6 0))]) dX12_bestSeat_34 rfl s_Mod_74 (c_Mod_heardAt hS (by omega) hR.w hB (by omega) (by omega)) rfl rfl rfl (jdet (st' := [aI (hrd D n b (D 6 0)), aI (hrd D n i (D 6 0))]) rfl ?_)
        have hh1 := hrd_bd (seat := i) (pace := D 6 0) hB
        have hh2 := hrd_bd (seat := b) (pace := D 6 0) hB
        refine j_icmp_le (tgt := 42) (pc' := 40) dX12_bestSeat_37 (by decide) rfl (by omega) (by omega) (fun h37 => ?_) (fun h37 => ?_)
        · refine j_iinc (pc' := 45) (z := i) (L' := [some (aR 53), some (aI b), some (aI (i + 1))]) dX12_bestSeat_42 rfl (by decide) rfl rfl rfl ?_
          refine j_goto (pc' := 4) dX12_bestSeat_45 (by decide) ?_
          exact ih4 _ (by omega) b (i + 1) (by omega) (by rw [show i + 1 - 1 = (i - 1) + 1 by omega, foldI_s (by omega), ← hv]; unfold bestH; rw [show i - 1 + 1 = i by omega]; first | rw [if_pos (by omega)] | rw [if_neg (by omega)]) (by omega) rfl
        · refine j_iload_n (pc' := 41) (z := i) dX12_bestSeat_40 rfl rfl ?_
          refine j_istore_n (pc' := 42) (L' := [some (aR 53), some (aI i), some (aI i)]) dX12_bestSeat_41 rfl (by decide) rfl ?_
          refine j_iinc (pc' := 45) (z := i) (L' := [some (aR 53), some (aI i), some (aI (i + 1))]) dX12_bestSeat_42 rfl (by decide) rfl rfl rfl ?_
          refine j_goto (pc' := 4) dX12_bestSeat_45 (by decide) ?_
          exact ih4 _ (by omega) i (i + 1) (by omega) (by rw [show i + 1 - 1 = (i - 1) + 1 by omega, foldI_s (by omega), ← hv]; unfold bestH; rw [show i - 1 + 1 = i by omega]; first | rw [if_pos (by omega)] | rw [if_neg (by omega)]) (by omega) rfl
  exact lp4 _ 0 1 (by omega) (by rfl) (by omega) rfl
set_option maxRecDepth 100000 in
set_option maxHeartbeats 4000000 in
theorem c_Mod_worth {l : Launch} {w : AW} {D Di : Int → Int → Int} {n mi hi ni mj : Int} {sh E : Int → Int → Int} {v : Int} (hM : Mod w D n mi hi Di ni mj sh E) (hB : CarOK D n mi) (hI : CarOK Di ni mj) (hhi : hi = 0 ∨ hi = 1) (hsh : ShOK sh E) (hwd : WdOK D) (hv : inI v) : Call l m_Mod_worth false 68 68 [aR 53, aI v] w (jM w (worthA D n v) D n mi hi Di ni mj sh E) := by
  have hT := MS.rf hM
  have hM0 := hM
  obtain ⟨⟨pc, ra, re, fm, se, th, hO⟩, ⟨S, hS, hR⟩, ⟨Sm, hSm⟩, ⟨Si, hSi, hRi⟩, ⟨Sw, hSw⟩, ⟨nu, hnu⟩, ⟨ha, hha⟩, ⟨fg, hfg⟩, ke, kk, kf, so, si, el, ⟨hke, hkk, hkf, hso, hsi, hel⟩, hRel⟩ := hM
  obtain ⟨hn, hD, hs0, hs1, hs2, hs3⟩ := id hB
  refine Call.of (L := [some (aR 53), some (aI v), none]) rfl (Nat.le_of_ble_eq_true rfl) rfl (fun G ad => ?_)
  refine j_iload_n (pc' := 1) (z := v) dX12_worth_0 rfl rfl ?_
  refine j_iconst (pc' := 2) dX12_worth_1 rfl ?_
  refine j_sipush (pc' := 5) dX12_worth_2 rfl (by decide) ?_
  refine j_callS (pc' := 8) (as := [aI v, aI 0, aI 9999]) (rest := []) dX12_worth_5 rfl s_Mod_49 (c_Mod_isIn (by omega) (by omega) (by omega)) rfl rfl rfl (jdet (st' := [aB (0 ≤ v ∧ v ≤ 9999)]) rfl ?_)
  refine j_ifb_ne (tgt := 13) (pc' := 11) dX12_worth_8 (by decide) rfl (fun h8 => ?_) (fun h8 => ?_)
  · refine j_aload_n (pc' := 14) (z := 53) dX12_worth_13 rfl rfl ?_
    refine j_get (pc' := 17) (v := aR 54) dX12_worth_14 rfl f_Mod_9 (by omega) hO rfl ?_
    refine j_callS (pc' := 20) (as := [aR 54]) (rest := []) dX12_worth_17 rfl s_Mod_77 (c_Mod_heardNow hS (by omega) hR.w hB ) rfl rfl rfl (jdet (st' := [aI (hrd D n 0 (D 6 0))]) rfl ?_)
    have hhb := hrd_bd (seat := 0) (pace := D 6 0) hB
    refine j_istore_n (pc' := 21) (L' := [some (aR 53), some (aI v), some (aI (hrd D n 0 (D 6 0)))]) dX12_worth_20 rfl (by decide) rfl ?_
    refine j_iload_n (pc' := 22) (z := (hrd D n 0 (D 6 0))) dX12_worth_21 rfl rfl ?_
    refine j_if_ne (tgt := 28) (pc' := 25) dX12_worth_22 (by decide) rfl (by omega) (fun h22 => ?_) (fun h22 => ?_)
    · refine j_iload_n (pc' := 29) (z := v) dX12_worth_28 rfl rfl ?_
      refine j_iload_n (pc' := 30) (z := (hrd D n 0 (D 6 0))) dX12_worth_29 rfl rfl ?_
      refine j_idiv (pc' := 31) dX12_worth_30 rfl (by omega) (by omega) ?_
      refine j_bipush (pc' := 33) dX12_worth_31 rfl (by decide) ?_
      refine j_icmp_le (tgt := 41) (pc' := 36) dX12_worth_33 (by decide) rfl (by have hq1 := Int.ediv_nonneg (a := v) (b := hrd D n 0 (D 6 0)) (by omega) (by omega); have hq2 := Int.ediv_le_self (a := v) (hrd D n 0 (D 6 0)) (by omega); omega) (by have hq1 := Int.ediv_nonneg (a := v) (b := hrd D n 0 (D 6 0)) (by omega) (by omega); have hq2 := Int.ediv_le_self (a := v) (hrd D n 0 (D 6 0)) (by omega); omega) (fun h33 => ?_) (fun h33 => ?_)
      · refine j_iload_n (pc' := 42) (z := v) dX12_worth_41 rfl rfl ?_
        refine j_iload_n (pc' := 43) (z := (hrd D n 0 (D 6 0))) dX12_worth_42 rfl rfl ?_
        refine j_idiv (pc' := 44) dX12_worth_43 rfl (by omega) (by omega) ?_
        exact j_iret dX12_worth_44 rfl (jM_of (by unfold worthA; rw [if_pos (by omega), if_neg (by omega)]; omega) hT)
      · refine j_bipush (pc' := 38) dX12_worth_36 rfl (by decide) ?_
        refine j_goto (pc' := 44) dX12_worth_38 (by decide) ?_
        exact j_iret dX12_worth_44 rfl (jM_of (by unfold worthA; rw [if_pos (by omega), if_neg (by omega)]; omega) hT)
    · refine j_bipush (pc' := 27) dX12_worth_25 rfl (by decide) ?_
      exact j_iret dX12_worth_27 rfl (jM_of (by unfold worthA; rw [if_pos (by omega), if_pos (by omega)]) hT)
  · refine j_iconst (pc' := 12) dX12_worth_11 rfl ?_
    exact j_iret dX12_worth_12 rfl (jM_of (by unfold worthA; rw [if_neg (by omega)]) hT)
set_option maxRecDepth 100000 in
set_option maxHeartbeats 4000000 in
theorem c_Mod_image {l : Launch} {w : AW} {D Di : Int → Int → Int} {n mi hi ni mj : Int} {sh E : Int → Int → Int}  (hM : Mod w D n mi hi Di ni mj sh E) (hB : CarOK D n mi) (hI : CarOK Di ni mj) (hhi : hi = 0 ∨ hi = 1) (hsh : ShOK sh E) (hwd : WdOK D)  : Call l m_Mod_image false 68 68 [aR 53] w (jM w mi D n mi 1 D n mi sh E) := by
  have hT := MS.rf hM
  have hM0 := hM
  obtain ⟨⟨pc, ra, re, fm, se, th, hO⟩, ⟨S, hS, hR⟩, ⟨Sm, hSm⟩, ⟨Si, hSi, hRi⟩, ⟨Sw, hSw⟩, ⟨nu, hnu⟩, ⟨ha, hha⟩, ⟨fg, hfg⟩, ke, kk, kf, so, si, el, ⟨hke, hkk, hkf, hso, hsi, hel⟩, hRel⟩ := hM
  obtain ⟨hn, hD, hs0, hs1, hs2, hs3⟩ := id hB
  refine Call.of (L := [some (aR 53)]) rfl (Nat.le_of_ble_eq_true rfl) rfl (fun G ad => ?_)
  refine j_aload_n (pc' := 1) (z := 53) dX12_image_0 rfl rfl ?_
  refine j_get (pc' := 4) (v := aR 54) dX12_image_1 rfl f_Mod_9 (by omega) hO rfl ?_
  refine j_aload_n (pc' := 5) (z := 53) dX12_image_4 rfl rfl ?_
  refine j_get (pc' := 8) (v := aR 56) dX12_image_5 rfl f_Mod_16 (by omega) hO rfl ?_
  refine j_callS (pc' := 11) (as := [aR 54, aR 56]) (rest := []) dX12_image_8 rfl s_Mod_134 (c_Mod_lays hS hSi (by omega) (by omega) (by omega)) rfl rfl rfl (jdet (st' := []) rfl ?_)
  refine j_aload_n (pc' := 12) (z := 53) dX12_image_11 rfl rfl ?_
  refine j_iconst (pc' := 13) dX12_image_12 rfl ?_
  refine j_put (pc' := 16) dX12_image_13 rfl p_Mod_227 (by omega) ((up_n (by omega)).trans hO) (Nat.le_of_ble_eq_true rfl) ⟨rfl, rfl⟩ ?_
  refine j_w (w' := up (up w 56 (eI 48 S)) 53 (eO 11 [aR 54, aR 55, aR 56, aR 57, aI 1, aI pc, aI ra, aI re, aR 58, aR 59, aR 60, aI fm, aI se, aR 61, aR 62, aR 63, aR 64, aR 65, aR 66, aI th])) rfl ?_
  refine j_aload_n (pc' := 17) (z := 53) dX12_image_16 rfl rfl ?_
  refine j_get (pc' := 20) (v := aR 54) dX12_image_17 rfl f_Mod_9 (by omega) up_s rfl ?_
  refine j_iconst (pc' := 21) dX12_image_20 rfl ?_
  refine j_iald (pc' := 22) dX12_image_21 rfl (by omega) ((up_n (by omega)).trans ((up_n (by omega)).trans hS)) (by omega) (by decide) ?_
  refine j_top (b := mi) hR.pm ?_
  exact j_iret dX12_image_22 rfl (jM_of (by rfl) (by have h9 := (hT.img (S' := S) hR).flag (pc := pc) (ra := ra) (re := re) (fm := fm) (se := se) (th := th) ⟨S, up_s, hR⟩; exact h9))
set_option maxRecDepth 100000 in
set_option maxHeartbeats 4000000 in
theorem c_Mod_restore {l : Launch} {w : AW} {D Di : Int → Int → Int} {n mi hi ni mj : Int} {sh E : Int → Int → Int}  (hM : Mod w D n mi hi Di ni mj sh E) (hB : CarOK D n mi) (hI : CarOK Di ni mj) (hhi : hi = 0 ∨ hi = 1) (hsh : ShOK sh E) (hwd : WdOK D)  : Call l m_Mod_restore false 68 68 [aR 53] w (jM w (if hi = 0 then -3 else mj) (if hi = 0 then D else Di) (if hi = 0 then n else ni) (if hi = 0 then mi else mj) hi Di ni mj sh E) := by
  have hT := MS.rf hM
  have hM0 := hM
  obtain ⟨⟨pc, ra, re, fm, se, th, hO⟩, ⟨S, hS, hR⟩, ⟨Sm, hSm⟩, ⟨Si, hSi, hRi⟩, ⟨Sw, hSw⟩, ⟨nu, hnu⟩, ⟨ha, hha⟩, ⟨fg, hfg⟩, ke, kk, kf, so, si, el, ⟨hke, hkk, hkf, hso, hsi, hel⟩, hRel⟩ := hM
  obtain ⟨hn, hD, hs0, hs1, hs2, hs3⟩ := id hB
  refine Call.of (L := [some (aR 53)]) rfl (Nat.le_of_ble_eq_true rfl) rfl (fun G ad => ?_)
  refine j_aload_n (pc' := 1) (z := 53) dX12_restore_0 rfl rfl ?_
  refine j_get (pc' := 4) (v := aI hi) dX12_restore_1 rfl f_Mod_227 (by omega) hO rfl ?_
  refine j_if_ne (tgt := 10) (pc' := 7) dX12_restore_4 (by decide) rfl (by omega) (fun h4 => ?_) (fun h4 => ?_)
  · have hRi1 := hRi (by omega)
    refine j_aload_n (pc' := 11) (z := 53) dX12_restore_10 rfl rfl ?_
    refine j_get (pc' := 14) (v := aR 56) dX12_restore_11 rfl f_Mod_16 (by omega) hO rfl ?_
    refine j_aload_n (pc' := 15) (z := 53) dX12_restore_14 rfl rfl ?_
    refine j_get (pc' := 18) (v := aR 54) dX12_restore_15 rfl f_Mod_9 (by omega) hO rfl ?_
    refine j_callS (pc' := 21) (as := [aR 56, aR 54]) (rest := []) dX12_restore_18 rfl s_Mod_134 (c_Mod_lays hSi hS (by omega) (by omega) (by omega)) rfl rfl rfl (jdet (st' := []) rfl ?_)
    refine j_aload_n (pc' := 22) (z := 53) dX12_restore_21 rfl rfl ?_
    refine j_get (pc' := 25) (v := aR 54) dX12_restore_22 rfl f_Mod_9 (by omega) ((up_n (by omega)).trans hO) rfl ?_
    refine j_iconst (pc' := 26) dX12_restore_25 rfl ?_
    refine j_iald (pc' := 27) dX12_restore_26 rfl (by omega) up_s (by omega) (by decide) ?_
    refine j_top (b := mj) hRi1.pm ?_
    exact j_iret dX12_restore_27 rfl (jM_of (by rw [if_neg (by omega)]) (by rw [if_neg (by omega), if_neg (by omega), if_neg (by omega)]; exact (hT.s hRi1)))
  · refine j_bipush (pc' := 9) dX12_restore_7 rfl (by decide) ?_
    exact j_iret dX12_restore_9 rfl (jM_of (by rw [if_pos (by omega)]) (by rw [if_pos (by omega), if_pos (by omega), if_pos (by omega)]; exact hT))
set_option maxRecDepth 100000 in
set_option maxHeartbeats 4000000 in
theorem c_Mod_count {l : Launch} {w : AW} {D Di : Int → Int → Int} {n mi hi ni mj : Int} {sh E : Int → Int → Int} {x : Int} (hM : Mod w D n mi hi Di ni mj sh E) (hB : CarOK D n mi) (hI : CarOK Di ni mj) (hhi : hi = 0 ∨ hi = 1) (hsh : ShOK sh E) (hwd : WdOK D) (hx : inI x) : Call l m_Mod_count false 68 68 [aR 53, aI x] w (jM w (countA D n mi x) D n mi hi Di ni mj sh E) := by
  have hT := MS.rf hM
  have hM0 := hM
  obtain ⟨⟨pc, ra, re, fm, se, th, hO⟩, ⟨S, hS, hR⟩, ⟨Sm, hSm⟩, ⟨Si, hSi, hRi⟩, ⟨Sw, hSw⟩, ⟨nu, hnu⟩, ⟨ha, hha⟩, ⟨fg, hfg⟩, ke, kk, kf, so, si, el, ⟨hke, hkk, hkf, hso, hsi, hel⟩, hRel⟩ := hM
  obtain ⟨hn, hD, hs0, hs1, hs2, hs3⟩ := id hB
  refine Call.of (L := [some (aR 53), some (aI x), none, none]) rfl (Nat.le_of_ble_eq_true rfl) rfl (fun G ad => ?_)
  refine j_iload_n (pc' := 1) (z := x) dX12_count_0 rfl rfl ?_
  refine j_iconst (pc' := 2) dX12_count_1 rfl ?_
  refine j_iconst (pc' := 3) dX12_count_2 rfl ?_
  refine j_callS (pc' := 6) (as := [aI x, aI 0, aI 5]) (rest := []) dX12_count_3 rfl s_Mod_49 (c_Mod_isIn (by omega) (by omega) (by omega)) rfl rfl rfl (jdet (st' := [aB (0 ≤ x ∧ x ≤ 5)]) rfl ?_)
  refine j_ifb_eq (tgt := 16) (pc' := 9) dX12_count_6 (by decide) rfl (fun h6 => ?_) (fun h6 => ?_)
  · refine j_iload_n (pc' := 17) (z := x) dX12_count_16 rfl rfl ?_
    refine j_bipush (pc' := 19) dX12_count_17 rfl (by decide) ?_
    refine j_icmp_ne (tgt := 30) (pc' := 22) dX12_count_19 (by decide) rfl (by omega) (by omega) (fun h19 => ?_) (fun h19 => ?_)
    · refine j_iload_n (pc' := 31) (z := x) dX12_count_30 rfl rfl ?_
      refine j_bipush (pc' := 33) dX12_count_31 rfl (by decide) ?_
      refine j_icmp_eq (tgt := 38) (pc' := 36) dX12_count_33 (by decide) rfl (by omega) (by omega) (fun h33 => ?_) (fun h33 => ?_)
      · refine j_iconst (pc' := 39) dX12_count_38 rfl ?_
        refine j_istore_n (pc' := 40) (L' := [some (aR 53), some (aI x), some (aI 0), none]) dX12_count_39 rfl (by decide) rfl ?_
        refine j_iconst (pc' := 41) dX12_count_40 rfl ?_
        refine j_istore_n (pc' := 42) (L' := [some (aR 53), some (aI x), some (aI 0), some (aI 0)]) dX12_count_41 rfl (by decide) rfl ?_
        have lp42 : ∀ (k9 : Nat) (v : Int) (i : Int), (0 ≤ i ∧ i ≤ n) → (v = bset (freP D) i) → (0 ≤ v ∧ v ≤ 127) → ((n - i).toNat) = k9 → J l m_Mod_count ad G [] false (jZ ad G false 68 m_Mod_count.2.2.2.2.cells m_Mod_count.2.2.2.2.slots (jM w (countA D n mi x) D n mi hi Di ni mj sh E)) 68 0 0 42 [some (aR 53), some (aI x), some (aI v), some (aI i)] [] w := by
          intro k9
          induction k9 using Nat.strongRecOn with
          | _ k9 ih42 =>
            intro v i hi9 hv hvb hk42
            refine j_iload_n (pc' := 43) (z := i) dX12_count_42 rfl rfl ?_
            refine j_aload_n (pc' := 44) (z := 53) dX12_count_43 rfl rfl ?_
            refine j_get (pc' := 47) (v := aR 54) dX12_count_44 rfl f_Mod_9 (by omega) hO rfl ?_
            refine j_iconst (pc' := 48) dX12_count_47 rfl ?_
            refine j_iald (pc' := 49) dX12_count_48 rfl (by omega) hS (by omega) (by decide) ?_
            refine j_top (b := n) hR.pn ?_
            refine j_icmp_ge (tgt := 81) (pc' := 52) dX12_count_49 (by decide) rfl (by omega) (by omega) (fun h49 => ?_) (fun h49 => ?_)
            · refine j_iload_n (pc' := 82) (z := v) dX12_count_81 rfl rfl ?_
              exact j_iret dX12_count_82 rfl (jM_of (by unfold countA; rw [hv, show i = n by omega]; (repeat' split) <;> first | rfl | omega) hT)
            · have hpw := pow7 (n := i) (by omega)
              have hDi := hD i (by omega) (by omega)
              refine j_iload_n (pc' := 53) (z := v) dX12_count_52 rfl rfl ?_
              refine j_aload_n (pc' := 54) (z := 53) dX12_count_53 rfl rfl ?_
              refine j_get (pc' := 57) (v := aR 54) dX12_count_54 rfl f_Mod_9 (by omega) hO rfl ?_
              refine j_iload_n (pc' := 58) (z := i) dX12_count_57 rfl rfl ?_
              refine j_iconst (pc' := 59) dX12_count_58 rfl ?_
              refine j_callS (pc' := 62) (as := [aI i, aI 4]) (rest := [aR 54, aI v]) dX12_count_59 rfl s_Mod_53 c_Mod_at rfl rfl rfl (jdet (st' := [aI (6 + 6 * i + 4), aR 54, aI v]) rfl ?_)
              refine j_iald (pc' := 63) dX12_count_62 rfl (by omega) hS (by omega) (by decide) ?_
              refine j_top (b := D 4 i) (hR.pj (j := 4) (p := i) (by omega) (by omega)) ?_
              refine j_if_ne (tgt := 72) (pc' := 66) dX12_count_63 (by decide) rfl (by omega) (fun h63 => ?_) (fun h63 => ?_)
              · refine j_iconst (pc' := 73) dX12_count_72 rfl ?_
                refine j_ior (pc' := 74) (a := v) (b := 0) dX12_count_73 rfl (by omega) (by omega) ?_
                refine j_istore_n (pc' := 75) (L' := [some (aR 53), some (aI x), some (aI (orI v 0)), some (aI i)]) dX12_count_74 rfl (by decide) rfl ?_
                refine j_iinc (pc' := 78) (z := i) (L' := [some (aR 53), some (aI x), some (aI (orI v 0)), some (aI (i + 1))]) dX12_count_75 rfl (by decide) rfl rfl rfl ?_
                refine j_goto (pc' := 42) dX12_count_78 (by decide) ?_
                exact ih42 _ (by omega) (orI v 0) (i + 1) (by omega) (by rw [hv]; exact bset_or (by omega) (by unfold freP; simp [*])) (by rw [hv, bset_or (P := freP D) (by omega) (by unfold freP; simp [*])]; exact bset_127 (by omega)) rfl
              · refine j_iconst (pc' := 67) dX12_count_66 rfl ?_
                refine j_iload_n (pc' := 68) (z := i) dX12_count_67 rfl rfl ?_
                refine j_ishl1 (pc' := 69) dX12_count_68 rfl (by omega) ?_
                refine j_goto (pc' := 73) dX12_count_69 (by decide) ?_
                refine j_ior (pc' := 74) (a := v) (b := 2 ^ (Int.toNat i)) dX12_count_73 rfl (by omega) (by omega) ?_
                refine j_istore_n (pc' := 75) (L' := [some (aR 53), some (aI x), some (aI (orI v (2 ^ (Int.toNat i)))), some (aI i)]) dX12_count_74 rfl (by decide) rfl ?_
                refine j_iinc (pc' := 78) (z := i) (L' := [some (aR 53), some (aI x), some (aI (orI v (2 ^ (Int.toNat i)))), some (aI (i + 1))]) dX12_count_75 rfl (by decide) rfl rfl rfl ?_
                refine j_goto (pc' := 42) dX12_count_78 (by decide) ?_
                exact ih42 _ (by omega) (orI v (2 ^ (Int.toNat i))) (i + 1) (by omega) (by rw [hv]; exact bset_or (by omega) (by unfold freP; simp [*])) (by rw [hv, bset_or (P := freP D) (by omega) (by unfold freP; simp [*])]; exact bset_127 (by omega)) rfl
        exact lp42 _ 0 0 (by omega) (by rfl) (by omega) rfl
      · refine j_iconst (pc' := 37) dX12_count_36 rfl ?_
        exact j_iret dX12_count_37 rfl (jM_of (by unfold countA; (repeat' split) <;> first | rfl | omega) hT)
    · refine j_aload_n (pc' := 23) (z := 53) dX12_count_22 rfl rfl ?_
      refine j_get (pc' := 26) (v := aR 54) dX12_count_23 rfl f_Mod_9 (by omega) hO rfl ?_
      refine j_callS (pc' := 29) (as := [aR 54]) (rest := []) dX12_count_26 rfl s_Mod_206 (c_Mod_figuresOf hS (by omega) hR.w hB ) rfl rfl rfl (jdet (st' := [aI (figs D n)]) rfl ?_)
      exact j_iret dX12_count_29 rfl (jM_of (by unfold countA; (repeat' split) <;> first | rfl | omega) hT)
  · refine j_aload_n (pc' := 10) (z := 53) dX12_count_9 rfl rfl ?_
    refine j_get (pc' := 13) (v := aR 54) dX12_count_10 rfl f_Mod_9 (by omega) hO rfl ?_
    refine j_iload_n (pc' := 14) (z := x) dX12_count_13 rfl rfl ?_
    refine j_iald (pc' := 15) dX12_count_14 rfl (by omega) hS (by omega) (by decide) ?_
    exact j_iret dX12_count_15 rfl (jM_of (by unfold countA; rcases (show x = 0 ∨ x = 1 ∨ x = 2 ∨ x = 3 ∨ x = 4 ∨ x = 5 by omega) with rfl | rfl | rfl | rfl | rfl | rfl; exact hR.pn; exact hR.pm; exact hR.s0; exact hR.s1; exact hR.s2; exact hR.s3) hT)
