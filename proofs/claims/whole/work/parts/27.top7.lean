theorem upD_upD {D : Int → Int → Int} {j p a b : Int} : upD (upD D j p a) j p b = upD D j p b := by
  funext i
  unfold upD
  split
  · funext x; unfold upi; simp; split <;> rfl
  · rfl
theorem wn_step {D : Int → Int → Int} {n z i : Int} {x : WS} (hi : 0 ≤ i) (hs : wnH D n i (wnF D n z i) = x) : wnF D n z (i + 1) = x := by
  unfold wnF at hs ⊢
  rw [foldI_s hi, hs]
theorem wnH_d {D : Int → Int → Int} {n z i z1 r a : Int} (h1 : z1 = (wnF D n z i).1) (h2 : r = (wnF D n z i).2.1) (h3 : a = (wnF D n z i).2.2.1) (h : i % 10 = 0) : wnH D n i (wnF D n z i) = wn1 n (z1, r, a, D) := by
  unfold wnH; rw [if_pos h, ← h1, ← h2, ← h3]
theorem wnH_x {D Y : Int → Int → Int} {n z i z1 r a : Int} (h1 : z1 = (wnF D n z i).1) (h2 : r = (wnF D n z i).2.1) (h3 : a = (wnF D n z i).2.2.1) (h : ¬ i % 10 = 0) (h4 : (wnF D n z i).2.2.2 = Y) : wnH D n i (wnF D n z i) = wn1 n (z1, r, a, Y) := by
  unfold wnH; rw [if_neg h]
  subst h1; subst h2; subst h3; subst h4; rfl
theorem chD_y {D : Int → Int → Int} {k v : Int} (hk : 0 ≤ k ∧ k ≤ 3) (hv : 0 ≤ v ∧ v ≤ mos k) : chD D k v = upD D 6 k v := if_pos ⟨hk, hv⟩
theorem mos0 : mos 0 = 99 := rfl
theorem mos1 : mos 1 = 9 := rfl
theorem mos2 : mos 2 = 5 := rfl
theorem mos3 : mos 3 = 40 := rfl
set_option maxRecDepth 100000 in
set_option maxHeartbeats 4000000 in
theorem c_Top_winters {l : Launch} {w : AW} {D Di : Int → Int → Int} {n mi hi ni mj : Int} {sh E : Int → Int → Int} {m z x : Int} (hW : Comp w D n mi hi Di ni mj sh E) (hB : CarOK D n mi) (hI : CarOK Di ni mj) (hhi : hi = 0 ∨ hi = 1) (hsh : ShOK sh E) (hwd : WdOK D) (hm : inI m) (hz : inI z) (hx : inI x) : Call l m_Top_winters false 68 68 [aR 0, aI m, aI z, aI x] w (jC w (winA D n m z x) D n mi hi Di ni mj sh E) := by
  have hT := TS.rf hW
  obtain ⟨hO, hK, hC, ⟨Dt, nt, mt, hCt⟩, hCi, hS34, hSh, ⟨po, hPo⟩, ⟨di, hDi⟩⟩ := hW
  obtain ⟨hn, hD, hs0, hs1, hs2, hs3⟩ := id hB
  refine Call.of (L := [some (aR 0), some (aI m), some (aI z), some (aI x), none, none, none, none, none]) rfl (Nat.le_of_ble_eq_true rfl) rfl (fun G ad => ?_)
  refine j_iload_n (pc' := 1) (z := m) dX11_winters_0 rfl rfl ?_
  refine j_iconst (pc' := 2) dX11_winters_1 rfl ?_
  refine j_bipush (pc' := 4) dX11_winters_2 rfl (by decide) ?_
  refine j_callS (pc' := 7) (as := [aI m, aI 1, aI 20]) (rest := []) dX11_winters_4 rfl s_Top_126 (c_within (by omega) (by omega) (by omega)) rfl rfl rfl (jdet (st' := [aB (1 ≤ m ∧ m ≤ 20)]) rfl ?_)
  refine j_ifb_eq (tgt := 17) (pc' := 10) dX11_winters_7 (by decide) rfl (fun h7 => ?_) (fun h7 => ?_)
  · refine j_iconst (pc' := 18) dX11_winters_17 rfl ?_
    exact j_iret dX11_winters_18 rfl (jC_of (by unfold winA; (repeat' split) <;> first | rfl | omega) hT)
  · refine j_iload_n (pc' := 11) (z := x) dX11_winters_10 rfl rfl ?_
    refine j_callS (pc' := 14) (as := [aI x]) (rest := []) dX11_winters_11 rfl s_Top_173 (c_isEither (by omega)) rfl rfl rfl (jdet (st' := [aB (0 ≤ x ∧ x ≤ 1)]) rfl ?_)
    refine j_ifb_ne (tgt := 19) (pc' := 17) dX11_winters_14 (by decide) rfl (fun h14 => ?_) (fun h14 => ?_)
    · refine j_iload_n (pc' := 20) (z := z) dX11_winters_19 rfl rfl ?_
      refine j_istore (pc' := 22) (L' := [some (aR 0), some (aI m), some (aI z), some (aI x), some (aI z), none, none, none, none]) dX11_winters_20 rfl (by decide) rfl ?_
      refine j_iconst (pc' := 23) dX11_winters_22 rfl ?_
      refine j_istore (pc' := 25) (L' := [some (aR 0), some (aI m), some (aI z), some (aI x), some (aI z), some (aI 0), none, none, none]) dX11_winters_23 rfl (by decide) rfl ?_
      refine j_iconst (pc' := 26) dX11_winters_25 rfl ?_
      refine j_istore (pc' := 28) (L' := [some (aR 0), some (aI m), some (aI z), some (aI x), some (aI z), some (aI 0), some (aI 0), none, none]) dX11_winters_26 rfl (by decide) rfl ?_
      refine j_iconst (pc' := 29) dX11_winters_28 rfl ?_
      refine j_istore (pc' := 31) (L' := [some (aR 0), some (aI m), some (aI z), some (aI x), some (aI z), some (aI 0), some (aI 0), some (aI 0), none]) dX11_winters_29 rfl (by decide) rfl ?_
      have lp31 : ∀ (k9 : Nat) (z1 : Int) (r : Int) (a : Int) (Dx : Int → Int → Int) (nx : Int) (mx : Int) (i : Int), (0 ≤ i ∧ i ≤ m * 10) → (z1 = (wnF D n z i).1) → (r = (wnF D n z i).2.1) → (a = (wnF D n z i).2.2.1) → ((0 ≤ r ∧ r ≤ i) ∧ (0 ≤ a ∧ a ≤ 147 * i)) → (¬ i % 10 = 0 → ((wnF D n z i).2.2.2 = Dx ∧ n = nx ∧ mi = mx ∧ CarOK Dx n mi ∧ WdOK Dx)) → ((m * 10 - i).toNat) = k9 → J l m_Top_winters ad G [] false (jZ ad G false 68 m_Top_winters.2.2.2.2.cells m_Top_winters.2.2.2.2.slots (jC w (winA D n m z x) D n mi hi Di ni mj sh E)) 68 0 0 31 [some (aR 0), some (aI m), some (aI z), some (aI x), some (aI z1), some (aI r), some (aI a), some (aI i), none] [] (carW w 18 Dx nx mx) := by
        intro k9
        induction k9 using Nat.strongRecOn with
        | _ k9 ih31 =>
          intro z1 r a Dx nx mx i hi9 hz9 hr9 ha9 hbd9 hY hk31
          refine j_iload (pc' := 33) (z := i) dX11_winters_31 rfl rfl ?_
          refine j_iload_n (pc' := 34) (z := m) dX11_winters_33 rfl rfl ?_
          refine j_bipush (pc' := 36) dX11_winters_34 rfl (by decide) ?_
          refine j_imul (pc' := 37) dX11_winters_36 rfl ?_
          refine j_icmp_ge (tgt := 152) (pc' := 40) dX11_winters_37 (by decide) rfl (by omega) (by omega) (fun h37 => ?_) (fun h37 => ?_)
          · refine j_iload_n (pc' := 153) (z := x) dX11_winters_152 rfl rfl ?_
            refine j_if_ne (tgt := 161) (pc' := 156) dX11_winters_153 (by decide) rfl (by omega) (fun h153 => ?_) (fun h153 => ?_)
            · refine j_iload (pc' := 163) (z := a) dX11_winters_161 rfl rfl ?_
              exact j_iret dX11_winters_163 rfl (jC_of (by unfold winA; rw [if_pos (by omega), show m * 10 = i by omega, ← hr9, ← ha9]; (repeat' split) <;> first | rfl | omega) hT.trial)
            · refine j_iload (pc' := 158) (z := r) dX11_winters_156 rfl rfl ?_
              refine j_goto (pc' := 163) dX11_winters_158 (by decide) ?_
              exact j_iret dX11_winters_163 rfl (jC_of (by unfold winA; rw [if_pos (by omega), show m * 10 = i by omega, ← hr9, ← ha9]; (repeat' split) <;> first | rfl | omega) hT.trial)
          · have ct59 : ∀ (Dy : Int → Int → Int), (CarOK Dy n mi) → (WdOK Dy) → (wnH D n i (wnF D n z i) = wn1 n (z1, r, a, Dy)) → J l m_Top_winters ad G [] false (jZ ad G false 68 m_Top_winters.2.2.2.2.cells m_Top_winters.2.2.2.2.slots (jC w (winA D n m z x) D n mi hi Di ni mj sh E)) 68 0 0 59 [some (aR 0), some (aI m), some (aI z), some (aI x), some (aI z1), some (aI r), some (aI a), some (aI i), none] [] (carW w 18 Dy n mi) := by
              intro Dy hyB hyW hst
              refine j_iload (pc' := 61) (z := z1) dX11_winters_59 rfl rfl ?_
              refine j_callS (pc' := 64) (as := [aI z1]) (rest := []) dX11_winters_61 rfl s_Top_299 c_nextSeed rfl rfl rfl (jdet (st' := [aI (lcg z1)]) rfl ?_)
              refine j_istore (pc' := 66) (L' := [some (aR 0), some (aI m), some (aI z), some (aI x), some (aI (lcg z1)), some (aI r), some (aI a), some (aI i), none]) dX11_winters_64 rfl (by decide) rfl ?_
              refine j_aload_n (pc' := 67) (z := 0) dX11_winters_66 rfl rfl ?_
              refine j_get (pc' := 70) (v := aR 18) dX11_winters_67 rfl f_Top_46 (by omega) ((carW_out (by omega)).trans hO) rfl ?_
              refine j_iconst (pc' := 71) dX11_winters_70 rfl ?_
              refine j_iload (pc' := 73) (z := (lcg z1)) dX11_winters_71 rfl rfl ?_
              refine j_callS (pc' := 76) (as := [aI (lcg z1)]) (rest := [aI 0, aR 18]) dX11_winters_73 rfl s_Top_302 c_drawn rfl rfl rfl (jdet (st' := [aI (drw (lcg z1)), aI 0, aR 18]) rfl ?_)
              have hdb := drw_bd (v := lcg z1)
              refine j_bipush (pc' := 78) dX11_winters_76 rfl (by decide) ?_
              refine j_irem (pc' := 79) dX11_winters_78 rfl (by omega) (by omega) ?_
              refine j_callV (pc' := 82) (as := [aI 0, aI ((drw (lcg z1)) % 100)]) (rest := []) dX11_winters_79 rfl s_Top_154 (c_Car_change CarAt_carW hyB (carW_kinds hK (by omega)) (by omega) (by omega) (by omega)) (by omega) CarAt_carW.1 rfl rfl rfl rfl (jdet (st' := [aI (chR Dy 0 ((drw (lcg z1)) % 100))]) rfl ?_)
              refine j_w (w' := carW w 18 (upD Dy 6 0 (drw (lcg z1) % 100)) n mi) (by rw [carW_carW]; exact congrArg (fun x => carW w 18 x n mi) (chD_y (by omega) (by have := mos0; have := mos1; have := mos2; omega))) ?_
              refine j_pop (pc' := 83) dX11_winters_82 rfl rfl ?_
              refine j_iload (pc' := 85) (z := (lcg z1)) dX11_winters_83 rfl rfl ?_
              refine j_callS (pc' := 88) (as := [aI (lcg z1)]) (rest := []) dX11_winters_85 rfl s_Top_299 c_nextSeed rfl rfl rfl (jdet (st' := [aI (lcg (lcg z1))]) rfl ?_)
              refine j_istore (pc' := 90) (L' := [some (aR 0), some (aI m), some (aI z), some (aI x), some (aI (lcg (lcg z1))), some (aI r), some (aI a), some (aI i), none]) dX11_winters_88 rfl (by decide) rfl ?_
              refine j_aload_n (pc' := 91) (z := 0) dX11_winters_90 rfl rfl ?_
              refine j_get (pc' := 94) (v := aR 18) dX11_winters_91 rfl f_Top_46 (by omega) ((carW_out (by omega)).trans hO) rfl ?_
              refine j_iconst (pc' := 95) dX11_winters_94 rfl ?_
              refine j_iload (pc' := 97) (z := (lcg (lcg z1))) dX11_winters_95 rfl rfl ?_
              refine j_callS (pc' := 100) (as := [aI (lcg (lcg z1))]) (rest := [aI 1, aR 18]) dX11_winters_97 rfl s_Top_302 c_drawn rfl rfl rfl (jdet (st' := [aI (drw (lcg (lcg z1))), aI 1, aR 18]) rfl ?_)
              have hdb2 := drw_bd (v := lcg (lcg z1))
              refine j_bipush (pc' := 102) dX11_winters_100 rfl (by decide) ?_
              refine j_irem (pc' := 103) dX11_winters_102 rfl (by omega) (by omega) ?_
              refine j_callV (pc' := 106) (as := [aI 1, aI ((drw (lcg (lcg z1))) % 10)]) (rest := []) dX11_winters_103 rfl s_Top_154 (c_Car_change CarAt_carW (hyB.ch (by omega) (by have := mos0; omega)) (carW_kinds hK (by omega)) (by omega) (by omega) (by omega)) (by omega) CarAt_carW.1 rfl rfl rfl rfl (jdet (st' := [aI (chR (upD Dy 6 0 (drw (lcg z1) % 100)) 1 ((drw (lcg (lcg z1))) % 10))]) rfl ?_)
              refine j_w (w' := carW w 18 (wnD Dy z1) n mi) (by rw [carW_carW]; exact congrArg (fun x => carW w 18 x n mi) (chD_y (by omega) (by have := mos0; have := mos1; have := mos2; omega))) ?_
              refine j_pop (pc' := 107) dX11_winters_106 rfl rfl ?_
              refine j_aload_n (pc' := 108) (z := 0) dX11_winters_107 rfl rfl ?_
              refine j_get (pc' := 111) (v := aR 18) dX11_winters_108 rfl f_Top_46 (by omega) ((carW_out (by omega)).trans hO) rfl ?_
              refine j_iconst (pc' := 112) dX11_winters_111 rfl ?_
              refine j_callV (pc' := 115) (as := [aI 0]) (rest := []) dX11_winters_112 rfl s_Top_158 (c_Car_heardNow CarAt_carW (wnD_ok hyB) (carW_kinds hK (by omega)) (by omega) (by omega)) (by omega) CarAt_carW.1 rfl rfl rfl rfl (jdet (st' := [aI (hrd (wnD Dy z1) n 0 ((wnD Dy z1) 6 0))]) rfl ?_)
              have hhb := hrd_bd (seat := 0) (pace := wnD Dy z1 6 0) (wnD_ok (z := z1) hyB)
              refine j_istore (pc' := 117) (L' := [some (aR 0), some (aI m), some (aI z), some (aI x), some (aI (lcg (lcg z1))), some (aI r), some (aI a), some (aI i), some (aI (hrd (wnD Dy z1) n 0 ((wnD Dy z1) 6 0)))]) dX11_winters_115 rfl (by decide) rfl ?_
              refine j_iload (pc' := 119) (z := r) dX11_winters_117 rfl rfl ?_
              refine j_iload (pc' := 121) (z := (hrd (wnD Dy z1) n 0 ((wnD Dy z1) 6 0))) dX11_winters_119 rfl rfl ?_
              refine j_if_le (tgt := 128) (pc' := 124) dX11_winters_121 (by decide) rfl (by omega) (fun h121 => ?_) (fun h121 => ?_)
              · refine j_iconst (pc' := 129) dX11_winters_128 rfl ?_
                refine j_iadd (pc' := 130) dX11_winters_129 rfl ?_
                refine j_istore (pc' := 132) (L' := [some (aR 0), some (aI m), some (aI z), some (aI x), some (aI (lcg (lcg z1))), some (aI (r + 0)), some (aI a), some (aI i), some (aI (hrd (wnD Dy z1) n 0 ((wnD Dy z1) 6 0)))]) dX11_winters_130 rfl (by decide) rfl ?_
                refine j_iload (pc' := 134) (z := a) dX11_winters_132 rfl rfl ?_
                refine j_iload (pc' := 136) (z := (hrd (wnD Dy z1) n 0 ((wnD Dy z1) 6 0))) dX11_winters_134 rfl rfl ?_
                refine j_iadd (pc' := 137) dX11_winters_136 rfl ?_
                refine j_istore (pc' := 139) (L' := [some (aR 0), some (aI m), some (aI z), some (aI x), some (aI (lcg (lcg z1))), some (aI (r + 0)), some (aI (a + (hrd (wnD Dy z1) n 0 ((wnD Dy z1) 6 0)))), some (aI i), some (aI (hrd (wnD Dy z1) n 0 ((wnD Dy z1) 6 0)))]) dX11_winters_137 rfl (by decide) rfl ?_
                refine j_aload_n (pc' := 140) (z := 0) dX11_winters_139 rfl rfl ?_
                refine j_get (pc' := 143) (v := aR 18) dX11_winters_140 rfl f_Top_46 (by omega) ((carW_out (by omega)).trans hO) rfl ?_
                refine j_callV (pc' := 146) (as := []) (rest := []) dX11_winters_143 rfl s_Top_296 (c_Car_endDrive CarAt_carW (wnD_ok hyB) (carW_kinds hK (by omega)) (by omega)) (by omega) CarAt_carW.1 rfl rfl rfl rfl (jdet (st' := []) rfl ?_)
                refine j_w (w' := carW w 18 (endD (wnD Dy z1) n) n mi) carW_carW ?_
                refine j_iinc (pc' := 149) (z := i) (L' := [some (aR 0), some (aI m), some (aI z), some (aI x), some (aI (lcg (lcg z1))), some (aI (r + 0)), some (aI (a + (hrd (wnD Dy z1) n 0 ((wnD Dy z1) 6 0)))), some (aI (i + 1)), some (aI (hrd (wnD Dy z1) n 0 ((wnD Dy z1) 6 0)))]) dX11_winters_146 rfl (by decide) rfl rfl rfl ?_
                refine j_goto (pc' := 31) dX11_winters_149 (by decide) ?_
                refine j_forget 8 (L' := [some (aR 0), some (aI m), some (aI z), some (aI x), some (aI (lcg (lcg z1))), some (aI (r + 0)), some (aI (a + (hrd (wnD Dy z1) n 0 ((wnD Dy z1) 6 0)))), some (aI (i + 1)), none]) rfl ?_
                exact ih31 _ (by omega) (lcg (lcg z1)) (r + 0) (a + (hrd (wnD Dy z1) n 0 ((wnD Dy z1) 6 0))) (endD (wnD Dy z1) n) n mi (i + 1) (by omega) (by rw [wn_step (by omega) hst]; rfl) (by rw [wn_step (by omega) hst]; show _ = r + (if 0 < hrd (wnD Dy z1) n 0 (wnD Dy z1 6 0) then 1 else 0); first | rw [if_pos (by omega)] | rw [if_neg (by omega)]) (by rw [wn_step (by omega) hst]; rfl) (by omega) (by intro q9; rw [wn_step (by omega) hst]; exact ⟨rfl, rfl, rfl, (wnD_ok hyB).end (wnD_wd hyW), (wnD_wd hyW).end⟩) rfl
              · refine j_iconst (pc' := 125) dX11_winters_124 rfl ?_
                refine j_goto (pc' := 129) dX11_winters_125 (by decide) ?_
                refine j_iadd (pc' := 130) dX11_winters_129 rfl ?_
                refine j_istore (pc' := 132) (L' := [some (aR 0), some (aI m), some (aI z), some (aI x), some (aI (lcg (lcg z1))), some (aI (r + 1)), some (aI a), some (aI i), some (aI (hrd (wnD Dy z1) n 0 ((wnD Dy z1) 6 0)))]) dX11_winters_130 rfl (by decide) rfl ?_
                refine j_iload (pc' := 134) (z := a) dX11_winters_132 rfl rfl ?_
                refine j_iload (pc' := 136) (z := (hrd (wnD Dy z1) n 0 ((wnD Dy z1) 6 0))) dX11_winters_134 rfl rfl ?_
                refine j_iadd (pc' := 137) dX11_winters_136 rfl ?_
                refine j_istore (pc' := 139) (L' := [some (aR 0), some (aI m), some (aI z), some (aI x), some (aI (lcg (lcg z1))), some (aI (r + 1)), some (aI (a + (hrd (wnD Dy z1) n 0 ((wnD Dy z1) 6 0)))), some (aI i), some (aI (hrd (wnD Dy z1) n 0 ((wnD Dy z1) 6 0)))]) dX11_winters_137 rfl (by decide) rfl ?_
                refine j_aload_n (pc' := 140) (z := 0) dX11_winters_139 rfl rfl ?_
                refine j_get (pc' := 143) (v := aR 18) dX11_winters_140 rfl f_Top_46 (by omega) ((carW_out (by omega)).trans hO) rfl ?_
                refine j_callV (pc' := 146) (as := []) (rest := []) dX11_winters_143 rfl s_Top_296 (c_Car_endDrive CarAt_carW (wnD_ok hyB) (carW_kinds hK (by omega)) (by omega)) (by omega) CarAt_carW.1 rfl rfl rfl rfl (jdet (st' := []) rfl ?_)
                refine j_w (w' := carW w 18 (endD (wnD Dy z1) n) n mi) carW_carW ?_
                refine j_iinc (pc' := 149) (z := i) (L' := [some (aR 0), some (aI m), some (aI z), some (aI x), some (aI (lcg (lcg z1))), some (aI (r + 1)), some (aI (a + (hrd (wnD Dy z1) n 0 ((wnD Dy z1) 6 0)))), some (aI (i + 1)), some (aI (hrd (wnD Dy z1) n 0 ((wnD Dy z1) 6 0)))]) dX11_winters_146 rfl (by decide) rfl rfl rfl ?_
                refine j_goto (pc' := 31) dX11_winters_149 (by decide) ?_
                refine j_forget 8 (L' := [some (aR 0), some (aI m), some (aI z), some (aI x), some (aI (lcg (lcg z1))), some (aI (r + 1)), some (aI (a + (hrd (wnD Dy z1) n 0 ((wnD Dy z1) 6 0)))), some (aI (i + 1)), none]) rfl ?_
                exact ih31 _ (by omega) (lcg (lcg z1)) (r + 1) (a + (hrd (wnD Dy z1) n 0 ((wnD Dy z1) 6 0))) (endD (wnD Dy z1) n) n mi (i + 1) (by omega) (by rw [wn_step (by omega) hst]; rfl) (by rw [wn_step (by omega) hst]; show _ = r + (if 0 < hrd (wnD Dy z1) n 0 (wnD Dy z1 6 0) then 1 else 0); first | rw [if_pos (by omega)] | rw [if_neg (by omega)]) (by rw [wn_step (by omega) hst]; rfl) (by omega) (by intro q9; rw [wn_step (by omega) hst]; exact ⟨rfl, rfl, rfl, (wnD_ok hyB).end (wnD_wd hyW), (wnD_wd hyW).end⟩) rfl
            refine j_iload (pc' := 42) (z := i) dX11_winters_40 rfl rfl ?_
            refine j_bipush (pc' := 44) dX11_winters_42 rfl (by decide) ?_
            refine j_irem (pc' := 45) dX11_winters_44 rfl (by omega) (by omega) ?_
            refine j_if_ne (tgt := 59) (pc' := 48) dX11_winters_45 (by decide) rfl (by omega) (fun h45 => ?_) (fun h45 => ?_)
            · obtain ⟨hy1, hy4, hy5, hy2, hy3⟩ := hY h45
              subst hy4
              subst hy5
              exact ct59 Dx (by exact hy2) (by exact hy3) (by exact wnH_x hz9 hr9 ha9 h45 hy1)
            · refine j_aload_n (pc' := 49) (z := 0) dX11_winters_48 rfl rfl ?_
              refine j_get (pc' := 52) (v := aR 18) dX11_winters_49 rfl f_Top_46 (by omega) ((carW_out (by omega)).trans hO) rfl ?_
              refine j_aload_n (pc' := 53) (z := 0) dX11_winters_52 rfl rfl ?_
              refine j_get (pc' := 56) (v := aR 10) dX11_winters_53 rfl f_Top_42 (by omega) ((carW_out (by omega)).trans hO) rfl ?_
              refine j_callV (pc' := 59) (as := [aR 10]) (rest := []) dX11_winters_56 rfl s_Top_84 (c_Car_becomes CarAt_carW (carW_other hC (by omega)) (by omega) (by omega) (by omega)) (by omega) CarAt_carW.1 rfl rfl rfl rfl (jdet (st' := []) rfl ?_)
              refine j_w (w' := carW w 18 D n mi) carW_carW ?_
              exact ct59 D (by exact hB) (by exact hwd) (by exact wnH_d hz9 hr9 ha9 h45)
      refine j_w (w' := carW w 18 Dt nt mt) (carW_id hCt).symm ?_
      exact lp31 _ z 0 0 Dt nt mt 0 (by omega) (by rfl) (by rfl) (by rfl) (by omega) (by intro q9; exact absurd rfl q9) rfl
    · refine j_iconst (pc' := 18) dX11_winters_17 rfl ?_
      exact j_iret dX11_winters_18 rfl (jC_of (by unfold winA; (repeat' split) <;> first | rfl | omega) hT)
def wtV (what k : Int) : Int := if what = 0 then k else 9 - k
def wtD (D : Int → Int → Int) (what k : Int) : Int → Int → Int := if what = 0 then upD D 6 2 k else upD D 6 1 (9 - k)
def wtP (D : Int → Int → Int) (n what k : Int) : Bool := decide (hrd (wtD D what k) n 0 (wtD D what k 6 0) = 0)
def wtF (D : Int → Int → Int) (n what : Int) : Int := fstI (wtP D n what) 0 (if what = 0 then 6 else 10)
def wantedA (D : Int → Int → Int) (n what : Int) : Int := if 0 ≤ what ∧ what ≤ 1 then (if wtF D n what = -4 then -4 else wtV what (wtF D n what)) else -1
theorem wtd_y {D : Int → Int → Int} {n x i v : Int} (hx : 0 ≤ x ∧ x ≤ 1) (h0 : 0 ≤ i) (hw : wtF D n x = i) (hv : v = wtV x i) : wantedA D n x = v := by
  unfold wantedA; rw [if_pos hx, hw, if_neg (by omega), hv]
theorem wtd_n {D : Int → Int → Int} {n x : Int} (hx : 0 ≤ x ∧ x ≤ 1) (hw : wtF D n x = -4) : wantedA D n x = -4 := by
  unfold wantedA; rw [if_pos hx, if_pos hw]
theorem wtV0 {k : Int} : wtV 0 k = k := if_pos rfl
theorem wtV1 {k : Int} : wtV 1 k = 9 - k := if_neg (by omega)
theorem wtP0 {D : Int → Int → Int} {n k : Int} : wtP D n 0 k = true ↔ hrd (upD D 6 2 k) n 0 (upD D 6 2 k 6 0) = 0 := by
  unfold wtP wtD; rw [if_pos rfl, decide_eq_true_iff]
theorem wtP1 {D : Int → Int → Int} {n k : Int} : wtP D n 1 k = true ↔ hrd (upD D 6 1 (9 - k)) n 0 (upD D 6 1 (9 - k) 6 0) = 0 := by
  unfold wtP wtD; rw [if_neg (by omega), decide_eq_true_iff]
set_option maxRecDepth 100000 in
set_option maxHeartbeats 4000000 in
theorem c_Top_wanted {l : Launch} {w : AW} {D Di : Int → Int → Int} {n mi hi ni mj : Int} {sh E : Int → Int → Int} {x : Int} (hW : Comp w D n mi hi Di ni mj sh E) (hB : CarOK D n mi) (hI : CarOK Di ni mj) (hhi : hi = 0 ∨ hi = 1) (hsh : ShOK sh E) (hx : inI x) : Call l m_Top_wanted false 68 68 [aR 0, aI x] w (jC w (wantedA D n x) D n mi hi Di ni mj sh E) := by
  have hT := TS.rf hW
  obtain ⟨hO, hK, hC, ⟨Dt, nt, mt, hCt⟩, hCi, hS34, hSh, ⟨po, hPo⟩, ⟨di, hDi⟩⟩ := hW
  obtain ⟨hn, hD, hs0, hs1, hs2, hs3⟩ := id hB
  refine Call.of (L := [some (aR 0), some (aI x), none, none, none, none]) rfl (Nat.le_of_ble_eq_true rfl) rfl (fun G ad => ?_)
  refine j_iload_n (pc' := 1) (z := x) dX11_wanted_0 rfl rfl ?_
  refine j_callS (pc' := 4) (as := [aI x]) (rest := []) dX11_wanted_1 rfl s_Top_173 (c_isEither (by omega)) rfl rfl rfl (jdet (st' := [aB (0 ≤ x ∧ x ≤ 1)]) rfl ?_)
  refine j_ifb_ne (tgt := 9) (pc' := 7) dX11_wanted_4 (by decide) rfl (fun h4 => ?_) (fun h4 => ?_)
  · refine j_iload_n (pc' := 10) (z := x) dX11_wanted_9 rfl rfl ?_
    refine j_if_ne (tgt := 17) (pc' := 13) dX11_wanted_10 (by decide) rfl (by omega) (fun h10 => ?_) (fun h10 => ?_)
    · refine j_iconst (pc' := 18) dX11_wanted_17 rfl ?_
      refine j_istore_n (pc' := 19) (L' := [some (aR 0), some (aI x), some (aI 1), none, none, none]) dX11_wanted_18 rfl (by decide) rfl ?_
      refine j_gets (pc' := 22) dX11_wanted_19 rfl g_Top_189 ?_
      refine j_iload_n (pc' := 23) (z := 1) dX11_wanted_22 rfl rfl ?_
      refine j_mos (pc' := 24) dX11_wanted_23 rfl (by omega) ?_
      refine j_istore_n (pc' := 25) (L' := [some (aR 0), some (aI x), some (aI 1), some (aI 9), none, none]) dX11_wanted_24 rfl (by decide) rfl ?_
      refine j_aload_n (pc' := 26) (z := 0) dX11_wanted_25 rfl rfl ?_
      refine j_get (pc' := 29) (v := aR 18) dX11_wanted_26 rfl f_Top_46 (by omega) hO rfl ?_
      refine j_aload_n (pc' := 30) (z := 0) dX11_wanted_29 rfl rfl ?_
      refine j_get (pc' := 33) (v := aR 10) dX11_wanted_30 rfl f_Top_42 (by omega) hO rfl ?_
      refine j_callV (pc' := 36) (as := [aR 10]) (rest := []) dX11_wanted_33 rfl s_Top_84 (c_Car_becomes hCt hC (by omega) (by omega) (by omega)) (by omega) hCt.1 rfl rfl rfl rfl (jdet (st' := []) rfl ?_)
      refine j_iconst (pc' := 37) dX11_wanted_36 rfl ?_
      refine j_istore (pc' := 39) (L' := [some (aR 0), some (aI x), some (aI 1), some (aI 9), some (aI 0), none]) dX11_wanted_37 rfl (by decide) rfl ?_
      have lp39 : ∀ (k9 : Nat) (Dx : Int → Int → Int) (i : Int), (0 ≤ i ∧ i ≤ 10) → (CarOK Dx n mi) → (∀ v, upD Dx 6 1 v = upD D 6 1 v) → (wtF D n 1 = fstI (wtP D n 1) i (10 - i).toNat) → ((20 - i).toNat) = k9 → J l m_Top_wanted ad G [] false (jZ ad G false 68 m_Top_wanted.2.2.2.2.cells m_Top_wanted.2.2.2.2.slots (jC w (wantedA D n x) D n mi hi Di ni mj sh E)) 68 0 0 39 [some (aR 0), some (aI x), some (aI 1), some (aI 9), some (aI i), none] [] (carW w 18 Dx n mi) := by
        intro k9
        induction k9 using Nat.strongRecOn with
        | _ k9 ih39 =>
          intro Dx i hi9 hXB hX hv hk39
          refine j_iload (pc' := 41) (z := i) dX11_wanted_39 rfl rfl ?_
          refine j_iload_n (pc' := 42) (z := 9) dX11_wanted_41 rfl rfl ?_
          refine j_icmp_gt (tgt := 91) (pc' := 45) dX11_wanted_42 (by decide) rfl (by omega) (by omega) (fun h42 => ?_) (fun h42 => ?_)
          · refine j_bipush (pc' := 93) dX11_wanted_91 rfl (by decide) ?_
            exact j_iret dX11_wanted_93 rfl (jC_of (by first | (have hx0 : x = 0 := (by omega); rw [hx0]; exact (wtd_n (by omega) (hv.trans (fstI_z (by omega)))).symm) | (have hx0 : x = 1 := (by omega); rw [hx0]; exact (wtd_n (by omega) (hv.trans (fstI_z (by omega)))).symm)) hT.trial)
          · refine j_iload_n (pc' := 46) (z := x) dX11_wanted_45 rfl rfl ?_
            refine j_if_ne (tgt := 54) (pc' := 49) dX11_wanted_46 (by decide) rfl (by omega) (fun h46 => ?_) (fun h46 => ?_)
            · refine j_iload_n (pc' := 55) (z := 9) dX11_wanted_54 rfl rfl ?_
              refine j_iload (pc' := 57) (z := i) dX11_wanted_55 rfl rfl ?_
              refine j_isub (pc' := 58) dX11_wanted_57 rfl ?_
              refine j_istore (pc' := 60) (L' := [some (aR 0), some (aI x), some (aI 1), some (aI 9), some (aI i), some (aI (9 - i))]) dX11_wanted_58 rfl (by decide) rfl ?_
              refine j_aload_n (pc' := 61) (z := 0) dX11_wanted_60 rfl rfl ?_
              refine j_get (pc' := 64) (v := aR 18) dX11_wanted_61 rfl f_Top_46 (by omega) ((carW_out (by omega)).trans hO) rfl ?_
              refine j_iload_n (pc' := 65) (z := 1) dX11_wanted_64 rfl rfl ?_
              refine j_iload (pc' := 67) (z := (9 - i)) dX11_wanted_65 rfl rfl ?_
              refine j_callV (pc' := 70) (as := [aI 1, aI (9 - i)]) (rest := []) dX11_wanted_67 rfl s_Top_154 (c_Car_change CarAt_carW hXB (carW_kinds hK (by omega)) (by omega) (by omega) (by omega)) (by omega) CarAt_carW.1 rfl rfl rfl rfl (jdet (st' := [aI (chR Dx 1 (9 - i))]) rfl ?_)
              refine j_w (w' := carW w 18 (upD D 6 1 (9 - i)) n mi) (by rw [carW_carW]; exact congrArg (fun x => carW w 18 x n mi) ((chD_y (by omega) (by have := mos1; have := mos2; omega)).trans (hX _))) ?_
              refine j_pop (pc' := 71) dX11_wanted_70 rfl rfl ?_
              refine j_aload_n (pc' := 72) (z := 0) dX11_wanted_71 rfl rfl ?_
              refine j_get (pc' := 75) (v := aR 18) dX11_wanted_72 rfl f_Top_46 (by omega) ((carW_out (by omega)).trans hO) rfl ?_
              refine j_iconst (pc' := 76) dX11_wanted_75 rfl ?_
              refine j_callV (pc' := 79) (as := [aI 0]) (rest := []) dX11_wanted_76 rfl s_Top_158 (c_Car_heardNow CarAt_carW (hB.ch (by omega) (by have := mos1; omega)) (carW_kinds hK (by omega)) (by omega) (by omega)) (by omega) CarAt_carW.1 rfl rfl rfl rfl (jdet (st' := [aI (hrd (upD D 6 1 (9 - i)) n 0 ((upD D 6 1 (9 - i)) 6 0))]) rfl ?_)
              have hhb := hrd_bd (seat := 0) (pace := (upD D 6 1 (9 - i)) 6 0) (hB.ch (n := n) (mi := mi) (k := 1) (v := 9 - i) (by omega) (by have := mos1; have := mos2; omega))
              refine j_if_ne (tgt := 85) (pc' := 82) dX11_wanted_79 (by decide) rfl (by omega) (fun h79 => ?_) (fun h79 => ?_)
              · refine j_iinc (pc' := 88) (z := i) (L' := [some (aR 0), some (aI x), some (aI 1), some (aI 9), some (aI (i + 1)), some (aI (9 - i))]) dX11_wanted_85 rfl (by decide) rfl rfl rfl ?_
                refine j_goto (pc' := 39) dX11_wanted_88 (by decide) ?_
                refine j_forget 5 (L' := [some (aR 0), some (aI x), some (aI 1), some (aI 9), some (aI (i + 1)), none]) rfl ?_
                exact ih39 _ (by omega) (upD D 6 1 (9 - i)) (i + 1) (by omega) (by exact hB.ch (by omega) (by have := mos1; have := mos2; omega)) (by intro v9; exact upD_upD) (by rw [hv, fstI_n (by omega) (by rw [wtP1]; exact h79)]) rfl
              · refine j_iload (pc' := 84) (z := (9 - i)) dX11_wanted_82 rfl rfl ?_
                exact j_iret dX11_wanted_84 rfl (jC_of (by first | (have hx0 : x = 0 := (by omega); rw [hx0]; exact (wtd_y (by omega) (by omega) (hv.trans (fstI_y (by omega) (wtP0.mpr h79))) wtV0.symm).symm) | (have hx0 : x = 1 := (by omega); rw [hx0]; exact (wtd_y (by omega) (by omega) (hv.trans (fstI_y (by omega) (wtP1.mpr h79))) wtV1.symm).symm)) hT.trial)
            · exact absurd h46 (by omega)
      exact lp39 _ D 0 (by omega) (by exact hB) (by intro v9; rfl) (by rfl) rfl
    · refine j_iconst (pc' := 14) dX11_wanted_13 rfl ?_
      refine j_goto (pc' := 18) dX11_wanted_14 (by decide) ?_
      refine j_istore_n (pc' := 19) (L' := [some (aR 0), some (aI x), some (aI 2), none, none, none]) dX11_wanted_18 rfl (by decide) rfl ?_
      refine j_gets (pc' := 22) dX11_wanted_19 rfl g_Top_189 ?_
      refine j_iload_n (pc' := 23) (z := 2) dX11_wanted_22 rfl rfl ?_
      refine j_mos (pc' := 24) dX11_wanted_23 rfl (by omega) ?_
      refine j_istore_n (pc' := 25) (L' := [some (aR 0), some (aI x), some (aI 2), some (aI 5), none, none]) dX11_wanted_24 rfl (by decide) rfl ?_
      refine j_aload_n (pc' := 26) (z := 0) dX11_wanted_25 rfl rfl ?_
      refine j_get (pc' := 29) (v := aR 18) dX11_wanted_26 rfl f_Top_46 (by omega) hO rfl ?_
      refine j_aload_n (pc' := 30) (z := 0) dX11_wanted_29 rfl rfl ?_
      refine j_get (pc' := 33) (v := aR 10) dX11_wanted_30 rfl f_Top_42 (by omega) hO rfl ?_
      refine j_callV (pc' := 36) (as := [aR 10]) (rest := []) dX11_wanted_33 rfl s_Top_84 (c_Car_becomes hCt hC (by omega) (by omega) (by omega)) (by omega) hCt.1 rfl rfl rfl rfl (jdet (st' := []) rfl ?_)
      refine j_iconst (pc' := 37) dX11_wanted_36 rfl ?_
      refine j_istore (pc' := 39) (L' := [some (aR 0), some (aI x), some (aI 2), some (aI 5), some (aI 0), none]) dX11_wanted_37 rfl (by decide) rfl ?_
      have lp39 : ∀ (k9 : Nat) (Dx : Int → Int → Int) (i : Int), (0 ≤ i ∧ i ≤ 6) → (CarOK Dx n mi) → (∀ v, upD Dx 6 2 v = upD D 6 2 v) → (wtF D n 0 = fstI (wtP D n 0) i (6 - i).toNat) → ((20 - i).toNat) = k9 → J l m_Top_wanted ad G [] false (jZ ad G false 68 m_Top_wanted.2.2.2.2.cells m_Top_wanted.2.2.2.2.slots (jC w (wantedA D n x) D n mi hi Di ni mj sh E)) 68 0 0 39 [some (aR 0), some (aI x), some (aI 2), some (aI 5), some (aI i), none] [] (carW w 18 Dx n mi) := by
        intro k9
        induction k9 using Nat.strongRecOn with
        | _ k9 ih39 =>
          intro Dx i hi9 hXB hX hv hk39
          refine j_iload (pc' := 41) (z := i) dX11_wanted_39 rfl rfl ?_
          refine j_iload_n (pc' := 42) (z := 5) dX11_wanted_41 rfl rfl ?_
          refine j_icmp_gt (tgt := 91) (pc' := 45) dX11_wanted_42 (by decide) rfl (by omega) (by omega) (fun h42 => ?_) (fun h42 => ?_)
          · refine j_bipush (pc' := 93) dX11_wanted_91 rfl (by decide) ?_
            exact j_iret dX11_wanted_93 rfl (jC_of (by first | (have hx0 : x = 0 := (by omega); rw [hx0]; exact (wtd_n (by omega) (hv.trans (fstI_z (by omega)))).symm) | (have hx0 : x = 1 := (by omega); rw [hx0]; exact (wtd_n (by omega) (hv.trans (fstI_z (by omega)))).symm)) hT.trial)
          · refine j_iload_n (pc' := 46) (z := x) dX11_wanted_45 rfl rfl ?_
            refine j_if_ne (tgt := 54) (pc' := 49) dX11_wanted_46 (by decide) rfl (by omega) (fun h46 => ?_) (fun h46 => ?_)
            · exact absurd h46 (by omega)
            · refine j_iload (pc' := 51) (z := i) dX11_wanted_49 rfl rfl ?_
              refine j_goto (pc' := 58) dX11_wanted_51 (by decide) ?_
              refine j_istore (pc' := 60) (L' := [some (aR 0), some (aI x), some (aI 2), some (aI 5), some (aI i), some (aI i)]) dX11_wanted_58 rfl (by decide) rfl ?_
              refine j_aload_n (pc' := 61) (z := 0) dX11_wanted_60 rfl rfl ?_
              refine j_get (pc' := 64) (v := aR 18) dX11_wanted_61 rfl f_Top_46 (by omega) ((carW_out (by omega)).trans hO) rfl ?_
              refine j_iload_n (pc' := 65) (z := 2) dX11_wanted_64 rfl rfl ?_
              refine j_iload (pc' := 67) (z := i) dX11_wanted_65 rfl rfl ?_
              refine j_callV (pc' := 70) (as := [aI 2, aI i]) (rest := []) dX11_wanted_67 rfl s_Top_154 (c_Car_change CarAt_carW hXB (carW_kinds hK (by omega)) (by omega) (by omega) (by omega)) (by omega) CarAt_carW.1 rfl rfl rfl rfl (jdet (st' := [aI (chR Dx 2 i)]) rfl ?_)
              refine j_w (w' := carW w 18 (upD D 6 2 i) n mi) (by rw [carW_carW]; exact congrArg (fun x => carW w 18 x n mi) ((chD_y (by omega) (by have := mos1; have := mos2; omega)).trans (hX _))) ?_
              refine j_pop (pc' := 71) dX11_wanted_70 rfl rfl ?_
              refine j_aload_n (pc' := 72) (z := 0) dX11_wanted_71 rfl rfl ?_
              refine j_get (pc' := 75) (v := aR 18) dX11_wanted_72 rfl f_Top_46 (by omega) ((carW_out (by omega)).trans hO) rfl ?_
              refine j_iconst (pc' := 76) dX11_wanted_75 rfl ?_
              refine j_callV (pc' := 79) (as := [aI 0]) (rest := []) dX11_wanted_76 rfl s_Top_158 (c_Car_heardNow CarAt_carW (hB.ch (by omega) (by have := mos2; omega)) (carW_kinds hK (by omega)) (by omega) (by omega)) (by omega) CarAt_carW.1 rfl rfl rfl rfl (jdet (st' := [aI (hrd (upD D 6 2 i) n 0 ((upD D 6 2 i) 6 0))]) rfl ?_)
              have hhb := hrd_bd (seat := 0) (pace := (upD D 6 2 i) 6 0) (hB.ch (n := n) (mi := mi) (k := 2) (v := i) (by omega) (by have := mos1; have := mos2; omega))
              refine j_if_ne (tgt := 85) (pc' := 82) dX11_wanted_79 (by decide) rfl (by omega) (fun h79 => ?_) (fun h79 => ?_)
              · refine j_iinc (pc' := 88) (z := i) (L' := [some (aR 0), some (aI x), some (aI 2), some (aI 5), some (aI (i + 1)), some (aI i)]) dX11_wanted_85 rfl (by decide) rfl rfl rfl ?_
                refine j_goto (pc' := 39) dX11_wanted_88 (by decide) ?_
                refine j_forget 5 (L' := [some (aR 0), some (aI x), some (aI 2), some (aI 5), some (aI (i + 1)), none]) rfl ?_
                exact ih39 _ (by omega) (upD D 6 2 i) (i + 1) (by omega) (by exact hB.ch (by omega) (by have := mos1; have := mos2; omega)) (by intro v9; exact upD_upD) (by rw [hv, fstI_n (by omega) (by rw [wtP0]; exact h79)]) rfl
              · refine j_iload (pc' := 84) (z := i) dX11_wanted_82 rfl rfl ?_
                exact j_iret dX11_wanted_84 rfl (jC_of (by first | (have hx0 : x = 0 := (by omega); rw [hx0]; exact (wtd_y (by omega) (by omega) (hv.trans (fstI_y (by omega) (wtP0.mpr h79))) wtV0.symm).symm) | (have hx0 : x = 1 := (by omega); rw [hx0]; exact (wtd_y (by omega) (by omega) (hv.trans (fstI_y (by omega) (wtP1.mpr h79))) wtV1.symm).symm)) hT.trial)
      exact lp39 _ D 0 (by omega) (by exact hB) (by intro v9; rfl) (by rfl) rfl
  · refine j_iconst (pc' := 8) dX11_wanted_7 rfl ?_
    exact j_iret dX11_wanted_8 rfl (jC_of (by unfold wantedA; rw [if_neg (by omega)]) hT)
theorem fb_eq {a b n : Int} (hn : 0 ≤ n) (ha : 0 ≤ a ∧ a < 2 ^ n.toNat) (hb : 0 ≤ b ∧ b < 2 ^ n.toNat) (h : ∀ p, 0 ≤ p → p < n → (bt a p = 1 ↔ bt b p = 1)) : a = b := by
  obtain ⟨a, rfl⟩ := Int.eq_ofNat_of_zero_le ha.1
  obtain ⟨b, rfl⟩ := Int.eq_ofNat_of_zero_le hb.1
  refine congrArg _ (Nat.eq_of_testBit_eq fun i => ?_)
  rw [Bool.eq_iff_iff, nb, nb]
  by_cases hi : (i : Int) < n
  · exact h i (by omega) hi
  · rw [bt_far ha (by omega) hn, bt_far hb (by omega) hn]
theorem bt_andn {a b p : Int} (ha : 0 ≤ a) (hb : 0 ≤ b) (hp : 0 ≤ p) : bt (andn a b) p = 1 ↔ bt a p = 1 ∧ ¬ bt b p = 1 := by
  obtain ⟨a, rfl⟩ := Int.eq_ofNat_of_zero_le ha
  obtain ⟨b, rfl⟩ := Int.eq_ofNat_of_zero_le hb
  obtain ⟨p, rfl⟩ := Int.eq_ofNat_of_zero_le hp
  unfold andn
  rw [← nb, ← nb, ← nb, Int.toNat_natCast, Int.toNat_natCast, Nat.testBit_xor, Nat.testBit_and]
  cases a.testBit p <;> cases b.testBit p <;> simp
theorem bt_andI {a b p : Int} (ha : 0 ≤ a) (hb : 0 ≤ b) (hp : 0 ≤ p) : bt (andI a b) p = 1 ↔ bt a p = 1 ∧ bt b p = 1 := by
  obtain ⟨a, rfl⟩ := Int.eq_ofNat_of_zero_le ha
  obtain ⟨b, rfl⟩ := Int.eq_ofNat_of_zero_le hb
  obtain ⟨p, rfl⟩ := Int.eq_ofNat_of_zero_le hp
  unfold andI
  rw [← nb, ← nb, ← nb, Int.toNat_natCast, Int.toNat_natCast, Nat.testBit_and]
  cases a.testBit p <;> cases b.testBit p <;> simp
theorem bt_orI {a b p : Int} (ha : 0 ≤ a) (hb : 0 ≤ b) (hp : 0 ≤ p) : bt (orI a b) p = 1 ↔ bt a p = 1 ∨ bt b p = 1 := by
  obtain ⟨a, rfl⟩ := Int.eq_ofNat_of_zero_le ha
  obtain ⟨b, rfl⟩ := Int.eq_ofNat_of_zero_le hb
  obtain ⟨p, rfl⟩ := Int.eq_ofNat_of_zero_le hp
  unfold orI
  rw [← nb, ← nb, ← nb, Int.toNat_natCast, Int.toNat_natCast, Nat.testBit_or]
  cases a.testBit p <;> cases b.testBit p <;> simp
theorem bt_pow {k p : Int} (hk : 0 ≤ k) (hp : 0 ≤ p) : bt (2 ^ k.toNat) p = 1 ↔ p = k := by
  obtain ⟨k, rfl⟩ := Int.eq_ofNat_of_zero_le hk
  obtain ⟨p, rfl⟩ := Int.eq_ofNat_of_zero_le hp
  have e : (2 : Int) ^ (k : Int).toNat = ((2 ^ k : Nat) : Int) := by simp
  rw [e, ← nb, Nat.testBit_two_pow, decide_eq_true_iff]
  omega
theorem andn_le {a b : Int} (ha : 0 ≤ a) : 0 ≤ andn a b ∧ andn a b ≤ a := by
  obtain ⟨a, rfl⟩ := Int.eq_ofNat_of_zero_le ha
  unfold andn
  rw [Int.toNat_natCast]
  have h : (a ^^^ (a &&& b.toNat)) &&& a = a ^^^ (a &&& b.toNat) := by
    apply Nat.eq_of_testBit_eq; intro i
    rw [Nat.testBit_and, Nat.testBit_xor, Nat.testBit_and]
    cases a.testBit i <;> cases b.toNat.testBit i <;> rfl
  have := Nat.and_le_right (n := a ^^^ (a &&& b.toNat)) (m := a)
  rw [h] at this
  omega
/-- whether an element fits a load -/
def fokP (D : Int → Int → Int) (n : Int) (F : Int → Int) (so l k : Int) : Bool := decide (F k = least so ∨ F k = hrd (upD D 6 2 l) n 0 k)
def fitP (D : Int → Int → Int) (n : Int) (F : Int → Int) (so i j : Int) (l : Int) : Bool := if l < j then allI (fokP D n F so l) (i + 1) else allI (fokP D n F so l) i
def fitS (D : Int → Int → Int) (n : Int) (F : Int → Int) (so i j : Int) : Int := bset (fitP D n F so i j) 6
def forP (D : Int → Int → Int) (n : Int) (F : Int → Int) (so i : Int) : Bool := decide (fitS D n F so i 6 = 0)
def forgedA (D : Int → Int → Int) (n : Int) (sh E : Int → Int → Int) (d : Int) : Int := if rowR sh d = 0 then fstI (forP D n (E d) (sh 3 d)) 0 (sh 4 d).toNat else rowR sh d
theorem fitS_bd {D : Int → Int → Int} {n so i j : Int} {F : Int → Int} : 0 ≤ fitS D n F so i j ∧ fitS D n F so i j ≤ 63 := by
  have := bset_bd' (P := fitP D n F so i j) (n := 6) (by omega)
  have e : (2 : Int) ^ (Int.toNat 6) = 64 := by decide
  rw [e] at this
  unfold fitS; omega
theorem fitS_0 {D : Int → Int → Int} {n so : Int} {F : Int → Int} : fitS D n F so 0 0 = 63 := by
  have e : fitP D n F so 0 0 = fun l => if l < 0 then allI (fokP D n F so l) (0 + 1) else true := rfl
  unfold fitS; rw [e]
  have e2 : bset (fun l => if l < 0 then allI (fokP D n F so l) (0 + 1) else true) 6 = bset (fun _ => true) 6 := by
    unfold bset
    apply sumI_congr
    intro k h1 h2
    simp [show ¬ k < 0 by omega]
  rw [e2]; decide
theorem fitS_nx {D : Int → Int → Int} {n so i : Int} {F : Int → Int} : fitS D n F so i 6 = fitS D n F so (i + 1) 0 := by
  unfold fitS bset
  apply sumI_congr
  intro k h1 h2
  unfold fitP
  rw [if_pos h2, if_neg (by omega : ¬ k < 0)]
theorem fitS_k {D : Int → Int → Int} {n so i j j' : Int} {F : Int → Int} (hi : 0 ≤ i) (h : ∀ l, 0 ≤ l → l < 6 → (l < j' ∧ ¬ l < j) → fokP D n F so l i = true) (hj : j ≤ j') : fitS D n F so i j = fitS D n F so i j' := by
  unfold fitS bset
  apply sumI_congr
  intro k h1 h2
  unfold fitP
  by_cases g1 : k < j
  · rw [if_pos g1, if_pos (show k < j' by omega)]
  · rw [if_neg g1]
    by_cases g2 : k < j'
    · rw [if_pos g2, allI_s hi, h k h1 h2 ⟨g2, g1⟩, Bool.and_true]
    · rw [if_neg g2]
theorem fitS_c {D : Int → Int → Int} {n so i j : Int} {F : Int → Int} (hi : 0 ≤ i) (hj : 0 ≤ j ∧ j < 6) (h : ¬ fokP D n F so j i = true) : andn (fitS D n F so i j) (2 ^ j.toNat) = fitS D n F so i (j + 1) := by
  have hb1 := fitS_bd (D := D) (n := n) (so := so) (i := i) (j := j) (F := F)
  have hb2 := fitS_bd (D := D) (n := n) (so := so) (i := i) (j := j + 1) (F := F)
  have hle := andn_le (a := fitS D n F so i j) (b := 2 ^ j.toNat) hb1.1
  have e : (2 : Int) ^ (Int.toNat 6) = 64 := by decide
  refine fb_eq (n := 6) (by omega) (by omega) (by omega) fun p h1 h2 => ?_
  rw [bt_andn hb1.1 (by have := two_pos j.toNat; omega) h1, bt_pow hj.1 h1]
  unfold fitS
  rw [bset_bt' ⟨h1, h2⟩, bset_bt' ⟨h1, h2⟩]
  unfold fitP
  by_cases hp : p = j
  · subst hp
    rw [if_neg (show ¬ p < p by omega), if_pos (show p < p + 1 by omega), allI_s hi]
    simp [h]
  · by_cases g : p < j
    · rw [if_pos g, if_pos (show p < j + 1 by omega)]; simp [hp]
    · rw [if_neg g, if_neg (show ¬ p < j + 1 by omega)]; simp [hp]
set_option maxRecDepth 100000 in
set_option maxHeartbeats 4000000 in
theorem c_Top_forged {l : Launch} {w : AW} {D Di : Int → Int → Int} {n mi hi ni mj : Int} {sh E : Int → Int → Int} {d : Int} (hW : Comp w D n mi hi Di ni mj sh E) (hB : CarOK D n mi) (hI : CarOK Di ni mj) (hhi : hi = 0 ∨ hi = 1) (hsh : ShOK sh E) (hd : inI d) : Call l m_Top_forged false 68 68 [aR 0, aI d] w (jC w (forgedA D n sh E d) D n mi hi Di ni mj sh E) := by
  have hT := TS.rf hW
  obtain ⟨hO, hK, hC, ⟨Dt, nt, mt, hCt⟩, hCi, hS34, hSh, ⟨po, hPo⟩, ⟨di, hDi⟩⟩ := hW
  obtain ⟨hn, hD, hs0, hs1, hs2, hs3⟩ := id hB
  refine Call.of (L := [some (aR 0), some (aI d), none, none, none, none, none]) rfl (Nat.le_of_ble_eq_true rfl) rfl (fun G ad => ?_)
  refine j_aload_n (pc' := 1) (z := 0) dX11_forged_0 rfl rfl ?_
  refine j_iload_n (pc' := 2) (z := d) dX11_forged_1 rfl rfl ?_
  refine j_callV (pc' := 5) (as := [aI d]) (rest := []) dX11_forged_2 rfl s_Top_70 (c_Top_rowRefusal hT.1 hsh (by omega)) (by omega) hO rfl rfl rfl rfl (jdet (st' := [aI (rowR sh d)]) rfl ?_)
  refine j_istore_n (pc' := 6) (L' := [some (aR 0), some (aI d), some (aI (rowR sh d)), none, none, none, none]) dX11_forged_5 rfl (by decide) rfl ?_
  refine j_iload_n (pc' := 7) (z := (rowR sh d)) dX11_forged_6 rfl rfl ?_
  have hrb := rowR_bd (sh := sh) (d := d)
  refine j_if_eq (tgt := 12) (pc' := 10) dX11_forged_7 (by decide) rfl (by omega) (fun h7 => ?_) (fun h7 => ?_)
  · obtain ⟨hd7, hct⟩ := rowR_0 h7
    obtain ⟨q1, q2, q3, q4, q5, q6⟩ := id (hsh d hd7)
    refine j_aload_n (pc' := 13) (z := 0) dX11_forged_12 rfl rfl ?_
    refine j_get (pc' := 16) (v := aR 34) dX11_forged_13 rfl f_Top_58 (by omega) hO rfl ?_
    refine j_iload_n (pc' := 17) (z := d) dX11_forged_16 rfl rfl ?_
    refine j_aald (pc' := 18) (r := (35 + 2 * (d).toNat)) (Cn := "RattleAtFifty$Shelf") dX11_forged_17 rfl (by omega) hS34 rfl (by omega) (by decide) rfl ?_
    refine j_astore_n (pc' := 19) (L' := [some (aR 0), some (aI d), some (aI (rowR sh d)), some (aR (35 + 2 * (d).toNat)), none, none, none]) dX11_forged_18 rfl (by decide) rfl ?_
    refine j_aload_n (pc' := 20) (z := 0) dX11_forged_19 rfl rfl ?_
    refine j_get (pc' := 23) (v := aR 18) dX11_forged_20 rfl f_Top_46 (by omega) hO rfl ?_
    refine j_aload_n (pc' := 24) (z := 0) dX11_forged_23 rfl rfl ?_
    refine j_get (pc' := 27) (v := aR 10) dX11_forged_24 rfl f_Top_42 (by omega) hO rfl ?_
    refine j_callV (pc' := 30) (as := [aR 10]) (rest := []) dX11_forged_27 rfl s_Top_84 (c_Car_becomes hCt hC (by omega) (by omega) (by omega)) (by omega) hCt.1 rfl rfl rfl rfl (jdet (st' := []) rfl ?_)
    refine j_bipush (pc' := 32) dX11_forged_30 rfl (by decide) ?_
    refine j_istore (pc' := 34) (L' := [some (aR 0), some (aI d), some (aI (rowR sh d)), some (aR (35 + 2 * (d).toNat)), some (aI 63), none, none]) dX11_forged_32 rfl (by decide) rfl ?_
    refine j_iconst (pc' := 35) dX11_forged_34 rfl ?_
    refine j_istore (pc' := 37) (L' := [some (aR 0), some (aI d), some (aI (rowR sh d)), some (aR (35 + 2 * (d).toNat)), some (aI 63), some (aI 0), none]) dX11_forged_35 rfl (by decide) rfl ?_
    have lp37 : ∀ (k9 : Nat) (f0 : Int) (Dx : Int → Int → Int) (i : Int), (0 ≤ i ∧ i ≤ sh 4 d) → (f0 = fitS D n (E d) (sh 3 d) i 0) → (0 ≤ f0 ∧ f0 ≤ 63) → (CarOK Dx n mi) → (∀ v, upD Dx 6 2 v = upD D 6 2 v) → (forgedA D n sh E d = fstI (forP D n (E d) (sh 3 d)) i (sh 4 d - i).toNat) → ((sh 4 d - i).toNat) = k9 → J l m_Top_forged ad G [] false (jZ ad G false 68 m_Top_forged.2.2.2.2.cells m_Top_forged.2.2.2.2.slots (jC w (forgedA D n sh E d) D n mi hi Di ni mj sh E)) 68 0 0 37 [some (aR 0), some (aI d), some (aI (rowR sh d)), some (aR (35 + 2 * (d).toNat)), some (aI f0), some (aI i), none] [] (carW w 18 Dx n mi) := by
      intro k9
      induction k9 using Nat.strongRecOn with
      | _ k9 ih37 =>
        intro f0 Dx i hi9 hf0 hf1 hXB hX hv hk37
        refine j_iload (pc' := 39) (z := i) dX11_forged_37 rfl rfl ?_
        refine j_aload_n (pc' := 40) (z := (35 + 2 * (d).toNat)) dX11_forged_39 rfl rfl ?_
        refine j_get (pc' := 43) (v := aI (sh 4 d)) dX11_forged_40 rfl f_Top_259 (by omega) ((carW_out (by omega)).trans (hSh d (by omega)).1) rfl ?_
        refine j_icmp_ge (tgt := 127) (pc' := 46) dX11_forged_43 (by decide) rfl (by omega) (by omega) (fun h43 => ?_) (fun h43 => ?_)
        · refine j_bipush (pc' := 129) dX11_forged_127 rfl (by decide) ?_
          exact j_iret dX11_forged_129 rfl (jC_of (by rw [hv, fstI_z (by omega)]) hT.trial)
        · refine j_iconst (pc' := 47) dX11_forged_46 rfl ?_
          refine j_istore (pc' := 49) (L' := [some (aR 0), some (aI d), some (aI (rowR sh d)), some (aR (35 + 2 * (d).toNat)), some (aI f0), some (aI i), some (aI 0)]) dX11_forged_47 rfl (by decide) rfl ?_
          have lp49 : ∀ (k9 : Nat) (f : Int) (Dz : Int → Int → Int) (j : Int), (0 ≤ j ∧ j ≤ 6) → (CarOK Dz n mi) → (∀ v, upD Dz 6 2 v = upD D 6 2 v) → (f = fitS D n (E d) (sh 3 d) i j) → (0 ≤ f ∧ f ≤ 63) → ((6 - j).toNat) = k9 → J l m_Top_forged ad G [] false (jZ ad G false 68 m_Top_forged.2.2.2.2.cells m_Top_forged.2.2.2.2.slots (jC w (forgedA D n sh E d) D n mi hi Di ni mj sh E)) 68 0 0 49 [some (aR 0), some (aI d), some (aI (rowR sh d)), some (aR (35 + 2 * (d).toNat)), some (aI f), some (aI i), some (aI j)] [] (carW w 18 Dz n mi) := by
            intro k9
            induction k9 using Nat.strongRecOn with
            | _ k9 ih49 =>
              intro f Dz j hj9 hXB2 hX2 hf hfb0 hk49
              refine j_iload (pc' := 51) (z := j) dX11_forged_49 rfl rfl ?_
              refine j_bipush (pc' := 53) dX11_forged_51 rfl (by decide) ?_
              refine j_icmp_ge (tgt := 113) (pc' := 56) dX11_forged_53 (by decide) rfl (by omega) (by omega) (fun h53 => ?_) (fun h53 => ?_)
              · have hfin : f = fitS D n (E d) (sh 3 d) i 6 := by
                  rw [hf]
                  first
                  | rw [show j = 6 by omega]
                  | exact fitS_k (by omega) (fun l9 g1 g2 g3 => decide_eq_true (Or.inl (by omega))) (by omega)
                have hfb := fitS_bd (D := D) (n := n) (so := sh 3 d) (i := i) (j := 6) (F := E d)
                refine j_iload (pc' := 115) (z := f) dX11_forged_113 rfl rfl ?_
                refine j_if_ne (tgt := 121) (pc' := 118) dX11_forged_115 (by decide) rfl (by omega) (fun h115 => ?_) (fun h115 => ?_)
                · refine j_iinc (pc' := 124) (z := i) (L' := [some (aR 0), some (aI d), some (aI (rowR sh d)), some (aR (35 + 2 * (d).toNat)), some (aI f), some (aI (i + 1)), some (aI j)]) dX11_forged_121 rfl (by decide) rfl rfl rfl ?_
                  refine j_goto (pc' := 37) dX11_forged_124 (by decide) ?_
                  refine j_forget 6 (L' := [some (aR 0), some (aI d), some (aI (rowR sh d)), some (aR (35 + 2 * (d).toNat)), some (aI f), some (aI (i + 1)), none]) rfl ?_
                  exact ih37 _ (by omega) f Dz (i + 1) (by omega) (by rw [hfin]; exact fitS_nx) (by omega) (by exact hXB2) (by exact hX2) (by rw [hv, fstI_n (by omega) (fun q9 => h115 (hfin.trans (of_decide_eq_true q9)))]) rfl
                · refine j_iload (pc' := 120) (z := i) dX11_forged_118 rfl rfl ?_
                  exact j_iret dX11_forged_120 rfl (jC_of (by rw [hv]; exact (fstI_y (by omega) (decide_eq_true (hfin.symm.trans h115))).symm) hT.trial)
              · refine j_aload_n (pc' := 57) (z := (35 + 2 * (d).toNat)) dX11_forged_56 rfl rfl ?_
                refine j_iload (pc' := 59) (z := i) dX11_forged_57 rfl rfl ?_
                refine j_callV (pc' := 62) (as := [aI i]) (rest := []) dX11_forged_59 rfl s_Top_293 (c_Shelf_skips (carW_shelf (hSh d (by omega)) (by omega)) (hsh d (by omega)) (by omega) (by omega)) (by omega) ((carW_out (by omega)).trans (hSh d (by omega)).1) rfl rfl rfl rfl (jdet (st' := [aB ((0 ≤ i ∧ i < sh 4 d) ∧ E d i = least (sh 3 d))]) rfl ?_)
                refine j_ifb_ne (tgt := 113) (pc' := 65) dX11_forged_62 (by decide) rfl (fun h62 => ?_) (fun h62 => ?_)
                · have hfin : f = fitS D n (E d) (sh 3 d) i 6 := by
                    rw [hf]
                    first
                    | rw [show j = 6 by omega]
                    | exact fitS_k (by omega) (fun l9 g1 g2 g3 => decide_eq_true (Or.inl (by omega))) (by omega)
                  have hfb := fitS_bd (D := D) (n := n) (so := sh 3 d) (i := i) (j := 6) (F := E d)
                  refine j_iload (pc' := 115) (z := f) dX11_forged_113 rfl rfl ?_
                  refine j_if_ne (tgt := 121) (pc' := 118) dX11_forged_115 (by decide) rfl (by omega) (fun h115 => ?_) (fun h115 => ?_)
                  · refine j_iinc (pc' := 124) (z := i) (L' := [some (aR 0), some (aI d), some (aI (rowR sh d)), some (aR (35 + 2 * (d).toNat)), some (aI f), some (aI (i + 1)), some (aI j)]) dX11_forged_121 rfl (by decide) rfl rfl rfl ?_
                    refine j_goto (pc' := 37) dX11_forged_124 (by decide) ?_
                    refine j_forget 6 (L' := [some (aR 0), some (aI d), some (aI (rowR sh d)), some (aR (35 + 2 * (d).toNat)), some (aI f), some (aI (i + 1)), none]) rfl ?_
                    exact ih37 _ (by omega) f Dz (i + 1) (by omega) (by rw [hfin]; exact fitS_nx) (by omega) (by exact hXB2) (by exact hX2) (by rw [hv, fstI_n (by omega) (fun q9 => h115 (hfin.trans (of_decide_eq_true q9)))]) rfl
                  · refine j_iload (pc' := 120) (z := i) dX11_forged_118 rfl rfl ?_
                    exact j_iret dX11_forged_120 rfl (jC_of (by rw [hv]; exact (fstI_y (by omega) (decide_eq_true (hfin.symm.trans h115))).symm) hT.trial)
                · refine j_aload_n (pc' := 66) (z := 0) dX11_forged_65 rfl rfl ?_
                  refine j_get (pc' := 69) (v := aR 18) dX11_forged_66 rfl f_Top_46 (by omega) ((carW_out (by omega)).trans hO) rfl ?_
                  refine j_iconst (pc' := 70) dX11_forged_69 rfl ?_
                  refine j_iload (pc' := 72) (z := j) dX11_forged_70 rfl rfl ?_
                  refine j_callV (pc' := 75) (as := [aI 2, aI j]) (rest := []) dX11_forged_72 rfl s_Top_154 (c_Car_change CarAt_carW hXB2 (carW_kinds hK (by omega)) (by omega) (by omega) (by omega)) (by omega) CarAt_carW.1 rfl rfl rfl rfl (jdet (st' := [aI (chR Dz 2 j)]) rfl ?_)
                  refine j_w (w' := carW w 18 (upD D 6 2 j) n mi) (by rw [carW_carW]; exact congrArg (fun x => carW w 18 x n mi) ((chD_y (by omega) (by have := mos2; omega)).trans (hX2 _))) ?_
                  refine j_pop (pc' := 76) dX11_forged_75 rfl rfl ?_
                  refine j_aload_n (pc' := 77) (z := 0) dX11_forged_76 rfl rfl ?_
                  refine j_get (pc' := 80) (v := aR 18) dX11_forged_77 rfl f_Top_46 (by omega) ((carW_out (by omega)).trans hO) rfl ?_
                  refine j_iconst (pc' := 81) dX11_forged_80 rfl ?_
                  refine j_iload (pc' := 83) (z := i) dX11_forged_81 rfl rfl ?_
                  refine j_callV (pc' := 86) (as := [aI 0, aI i]) (rest := []) dX11_forged_83 rfl s_Top_167 (c_Car_heardAt CarAt_carW (hB.ch (by omega) (by have := mos2; omega)) (carW_kinds hK (by omega)) (by omega) (by omega) (by omega)) (by omega) CarAt_carW.1 rfl rfl rfl rfl (jdet (st' := [aI (hrd (upD D 6 2 j) n 0 i)]) rfl ?_)
                  refine j_aload_n (pc' := 87) (z := (35 + 2 * (d).toNat)) dX11_forged_86 rfl rfl ?_
                  refine j_get (pc' := 90) (v := aR (35 + 2 * (d).toNat + 1)) dX11_forged_87 rfl f_Top_262 (by omega) ((carW_out (by omega)).trans (hSh d (by omega)).1) rfl ?_
                  refine j_iload (pc' := 92) (z := i) dX11_forged_90 rfl rfl ?_
                  refine j_iald (pc' := 93) dX11_forged_92 rfl (by omega) ((carW_out (by omega)).trans (hSh d (by omega)).2) (by omega) (by decide) ?_
                  have hhb := hrd_bd (seat := 0) (pace := i) (hB.ch (k := 2) (v := j) (by omega) (by have := mos2; omega))
                  have hEi := q6 i (by omega) (by omega)
                  have hkk : fokP D n (E d) (sh 3 d) j i = true ↔ (E d i = least (sh 3 d) ∨ E d i = hrd (upD D 6 2 j) n 0 i) := decide_eq_true_iff
                  refine j_icmp_eq (tgt := 107) (pc' := 96) dX11_forged_93 (by decide) rfl (by omega) (by omega) (fun h93 => ?_) (fun h93 => ?_)
                  · refine j_iinc (pc' := 110) (z := j) (L' := [some (aR 0), some (aI d), some (aI (rowR sh d)), some (aR (35 + 2 * (d).toNat)), some (aI f), some (aI i), some (aI (j + 1))]) dX11_forged_107 rfl (by decide) rfl rfl rfl ?_
                    refine j_goto (pc' := 49) dX11_forged_110 (by decide) ?_
                    exact ih49 _ (by omega) f (upD D 6 2 j) (j + 1) (by omega) (by exact hB.ch (by omega) (by have := mos2; omega)) (by intro v9; exact upD_upD) (by rw [hf]; exact fitS_k (by omega) (fun l9 g1 g2 g3 => by rw [show l9 = j by omega, hkk]; omega) (by omega)) (by omega) rfl
                  · refine j_iload (pc' := 98) (z := f) dX11_forged_96 rfl rfl ?_
                    refine j_iconst (pc' := 99) dX11_forged_98 rfl ?_
                    have hpj := pow7 (n := j) (by omega)
                    refine j_iload (pc' := 101) (z := j) dX11_forged_99 rfl rfl ?_
                    refine j_ishl1 (pc' := 102) dX11_forged_101 rfl (by omega) ?_
                    refine j_iconst (pc' := 103) dX11_forged_102 rfl ?_
                    refine j_inot (pc' := 104) dX11_forged_103 rfl ?_
                    refine j_iandn (pc' := 105) (a := f) (b := (2 ^ (Int.toNat j))) dX11_forged_104 rfl (by omega) (by omega) ?_
                    refine j_istore (pc' := 107) (L' := [some (aR 0), some (aI d), some (aI (rowR sh d)), some (aR (35 + 2 * (d).toNat)), some (aI (andn f (2 ^ (Int.toNat j)))), some (aI i), some (aI j)]) dX11_forged_105 rfl (by decide) rfl ?_
                    refine j_iinc (pc' := 110) (z := j) (L' := [some (aR 0), some (aI d), some (aI (rowR sh d)), some (aR (35 + 2 * (d).toNat)), some (aI (andn f (2 ^ (Int.toNat j)))), some (aI i), some (aI (j + 1))]) dX11_forged_107 rfl (by decide) rfl rfl rfl ?_
                    refine j_goto (pc' := 49) dX11_forged_110 (by decide) ?_
                    exact ih49 _ (by omega) (andn f (2 ^ (Int.toNat j))) (upD D 6 2 j) (j + 1) (by omega) (by exact hB.ch (by omega) (by have := mos2; omega)) (by intro v9; exact upD_upD) (by rw [hf]; exact fitS_c (by omega) (by omega) (by rw [hkk]; omega)) (by have := andn_le (a := f) (b := 2 ^ (Int.toNat j)) (by omega); omega) rfl
          exact lp49 _ f0 Dx 0 (by omega) (by exact hXB) (by exact hX) (by exact hf0) (by exact hf1) rfl
    exact lp37 _ 63 D 0 (by omega) (by exact fitS_0.symm) (by omega) (by exact hB) (by intro v9; rfl) (by unfold forgedA; rw [if_pos h7, Int.sub_zero]) rfl
  · refine j_iload_n (pc' := 11) (z := (rowR sh d)) dX11_forged_10 rfl rfl ?_
    exact j_iret dX11_forged_11 rfl (jC_of (by unfold forgedA; rw [if_neg h7]) hT)
