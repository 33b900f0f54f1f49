set_option maxRecDepth 100000 in
set_option maxHeartbeats 4000000 in
theorem c_Top_rowRefusal {l : Launch} {w : AW} {D Di : Int → Int → Int} {n mi hi ni mj : Int} {sh E : Int → Int → Int} {d : Int} (hW : Comp w D n mi hi Di ni mj sh E) (hsh : ShOK sh E) (hd : inI d) : Call l m_Top_rowRefusal false 68 68 [aR 0, aI d] w (rt (some (aI (rowR sh d))) w) := by
  obtain ⟨hO, hK, hC, ⟨Dt, nt, mt, hCt⟩, hCi, hS34, hSh, ⟨po, hPo⟩, ⟨di, hDi⟩⟩ := hW
  refine Call.of (L := [some (aR 0), some (aI d)]) rfl (Nat.le_of_ble_eq_true rfl) rfl (fun G ad => ?_)
  refine j_iload_n (pc' := 1) (z := d) dX11_rowRefusal_0 rfl rfl ?_
  refine j_callS (pc' := 4) (as := [aI d]) (rest := []) dX11_rowRefusal_1 rfl s_Top_120 (c_isShelf (by omega)) rfl rfl rfl (jdet (st' := [aB (0 ≤ d ∧ d ≤ 7)]) rfl ?_)
  refine j_ifb_eq (tgt := 19) (pc' := 7) dX11_rowRefusal_4 (by decide) rfl (fun h4 => ?_) (fun h4 => ?_)
  · refine j_iconst (pc' := 20) dX11_rowRefusal_19 rfl ?_
    exact j_iret dX11_rowRefusal_20 rfl (rt_eq (by unfold rowR; (repeat' split) <;> first | rfl | omega))
  · refine j_aload_n (pc' := 8) (z := 0) dX11_rowRefusal_7 rfl rfl ?_
    refine j_get (pc' := 11) (v := aR 34) dX11_rowRefusal_8 rfl f_Top_58 (by omega) hO rfl ?_
    refine j_iload_n (pc' := 12) (z := d) dX11_rowRefusal_11 rfl rfl ?_
    refine j_aald (pc' := 13) (r := (35 + 2 * (d).toNat)) (Cn := "RattleAtFifty$Shelf") dX11_rowRefusal_12 rfl (by omega) hS34 rfl (by omega) (by decide) rfl ?_
    refine j_callV (pc' := 16) (as := []) (rest := []) dX11_rowRefusal_13 rfl s_Top_336 (c_Shelf_refusalAsRow (hSh d (by omega)) (hsh d (by omega)) (by omega)) (by omega) (hSh d (by omega)).1 rfl rfl rfl rfl (jdet (st' := [aI (refR (sh 0 d))]) rfl ?_)
    refine j_goto (pc' := 20) dX11_rowRefusal_16 (by decide) ?_
    exact j_iret dX11_rowRefusal_20 rfl (rt_eq (by unfold rowR; (repeat' split) <;> first | rfl | omega))
set_option maxRecDepth 100000 in
set_option maxHeartbeats 4000000 in
theorem c_Top_kindRefusal {l : Launch} {w : AW} {D Di : Int → Int → Int} {n mi hi ni mj : Int} {sh E : Int → Int → Int} {d : Int} (hW : Comp w D n mi hi Di ni mj sh E) (hsh : ShOK sh E) (hd : inI d) : Call l m_Top_kindRefusal false 68 68 [aR 0, aI d] w (rt (some (aI (kinR sh d))) w) := by
  obtain ⟨hO, hK, hC, ⟨Dt, nt, mt, hCt⟩, hCi, hS34, hSh, ⟨po, hPo⟩, ⟨di, hDi⟩⟩ := hW
  refine Call.of (L := [some (aR 0), some (aI d)]) rfl (Nat.le_of_ble_eq_true rfl) rfl (fun G ad => ?_)
  refine j_iload_n (pc' := 1) (z := d) dX11_kindRefusal_0 rfl rfl ?_
  refine j_callS (pc' := 4) (as := [aI d]) (rest := []) dX11_kindRefusal_1 rfl s_Top_120 (c_isShelf (by omega)) rfl rfl rfl (jdet (st' := [aB (0 ≤ d ∧ d ≤ 7)]) rfl ?_)
  refine j_ifb_eq (tgt := 19) (pc' := 7) dX11_kindRefusal_4 (by decide) rfl (fun h4 => ?_) (fun h4 => ?_)
  · refine j_iconst (pc' := 20) dX11_kindRefusal_19 rfl ?_
    exact j_iret dX11_kindRefusal_20 rfl (rt_eq (by unfold kinR; (repeat' split) <;> first | rfl | omega))
  · refine j_aload_n (pc' := 8) (z := 0) dX11_kindRefusal_7 rfl rfl ?_
    refine j_get (pc' := 11) (v := aR 34) dX11_kindRefusal_8 rfl f_Top_58 (by omega) hO rfl ?_
    refine j_iload_n (pc' := 12) (z := d) dX11_kindRefusal_11 rfl rfl ?_
    refine j_aald (pc' := 13) (r := (35 + 2 * (d).toNat)) (Cn := "RattleAtFifty$Shelf") dX11_kindRefusal_12 rfl (by omega) hS34 rfl (by omega) (by decide) rfl ?_
    refine j_callV (pc' := 16) (as := []) (rest := []) dX11_kindRefusal_13 rfl s_Top_130 (c_Shelf_refusalAsKind (hSh d (by omega)) (hsh d (by omega)) (by omega)) (by omega) (hSh d (by omega)).1 rfl rfl rfl rfl (jdet (st' := [aI (refK (sh 0 d))]) rfl ?_)
    refine j_goto (pc' := 20) dX11_kindRefusal_16 (by decide) ?_
    exact j_iret dX11_kindRefusal_20 rfl (rt_eq (by unfold kinR; (repeat' split) <;> first | rfl | omega))
def partA (D : Int → Int → Int) (n p what : Int) : Int := if 0 ≤ p ∧ p < n then (if what = 0 then D 0 p else if what = 1 then D 1 p else if what = 2 then D 2 p else if what = 3 then D 3 p else if what = 4 then D 4 p else if what = 5 then lds D p (D 6 0) else if what = 6 then secs (D 0 p) (D 1 p) else if what = 7 then loos (D 0 p) else -1) else -1
def addsA (sh : Int → Int → Int) (n d seat weight : Int) : Int := if (0 ≤ d ∧ d ≤ 7) ∧ (0 ≤ seat ∧ seat ≤ 3) ∧ (1 ≤ weight ∧ weight ≤ 9) then (if refK (sh 0 d) = 0 then tiR n (sh 1 d) (sh 2 d) seat weight else refK (sh 0 d)) else -1
def addsD (D : Int → Int → Int) (sh : Int → Int → Int) (n d seat weight : Int) : Int → Int → Int := if ((0 ≤ d ∧ d ≤ 7) ∧ (0 ≤ seat ∧ seat ≤ 3) ∧ (1 ≤ weight ∧ weight ≤ 9)) ∧ refK (sh 0 d) = 0 then tiD D n (sh 1 d) (sh 2 d) seat weight else D
def addsN (sh : Int → Int → Int) (n d seat weight : Int) : Int := if ((0 ≤ d ∧ d ≤ 7) ∧ (0 ≤ seat ∧ seat ≤ 3) ∧ (1 ≤ weight ∧ weight ≤ 9)) ∧ refK (sh 0 d) = 0 then tiN n (sh 1 d) (sh 2 d) seat weight else n
def drivesA (D : Int → Int → Int) (n mi x : Int) : Int := if drR mi x = 0 then hrd D n 0 (D 6 0) else drR mi x
def heardA (D : Int → Int → Int) (n seat pace : Int) : Int := if (0 ≤ seat ∧ seat ≤ 3) ∧ (0 ≤ pace ∧ pace ≤ 99) then hrd D n seat pace else -1
def loudestA (D : Int → Int → Int) (n seat : Int) : Int := if 0 ≤ seat ∧ seat ≤ 3 then (lst D n seat).1 else -1
def radioA (D : Int → Int → Int) (n seat : Int) : Int := if 0 ≤ seat ∧ seat ≤ 3 then (if sumI (fun p => snd D p seat (D 6 0)) n ≤ 40 then sumI (fun p => snd D p seat (D 6 0)) n else -4) else -1
def holdAllA (D : Int → Int → Int) (n what : Int) : Int := if 0 ≤ what ∧ what ≤ 1 then (if what = 0 then fth D n (2 ^ n.toNat) else secO D n (fth D n (2 ^ n.toNat))) else -1
def worthA (D : Int → Int → Int) (n v : Int) : Int := if 0 ≤ v ∧ v ≤ 9999 then (if hrd D n 0 (D 6 0) ≤ 0 then -4 else min (v / hrd D n 0 (D 6 0)) 99) else -1
def countA (D : Int → Int → Int) (n mi what : Int) : Int := if what = 0 then n else if what = 1 then mi else if what = 2 then D 6 0 else if what = 3 then D 6 1 else if what = 4 then D 6 2 else if what = 5 then D 6 3 else if what = 6 then figs D n else if what = 7 then freS D n else -1
theorem hrd_bd {D : Int → Int → Int} {n mi seat pace : Int} (hB : CarOK D n mi) : 0 ≤ hrd D n seat pace ∧ hrd D n seat pace ≤ 147 := by
  have h := sab_bd (set := 0) (seat := seat) (pace := pace) hB
  rw [sab0] at h
  obtain ⟨hn, hD, hs0, hs1, hs2, hs3⟩ := hB
  unfold hrd
  omega
theorem fth_bd {D : Int → Int → Int} {n mi x : Int} (hB : CarOK D n mi) (h0 : 0 ≤ x) (hx : x ≤ 128) : 0 ≤ fth D n x ∧ fth D n x ≤ 127 := by
  obtain ⟨hn, -⟩ := hB
  have key : ∀ m : Nat, (m : Int) ≤ 128 → 0 ≤ fth D n m ∧ fth D n m ≤ 127 := by
    intro m
    induction m with
    | zero => intro _; exact bset_127 (P := freP D) ⟨hn.1, hn.2.1⟩
    | succ m ih =>
      intro hm
      have h2 := ih (by omega)
      unfold fth at h2 ⊢
      rw [show ((m + 1 : Nat) : Int) = (m : Int) + 1 by omega, foldI_s (by omega)]
      generalize foldI (fthG D n) (freS D n) (m : Int) = b at h2
      unfold fthG
      split <;> omega
  have := key x.toNat (by omega)
  rwa [Int.toNat_of_nonneg h0] at this
set_option maxRecDepth 100000 in
set_option maxHeartbeats 4000000 in
theorem c_Top_part {l : Launch} {w : AW} {D Di : Int → Int → Int} {n mi hi ni mj : Int} {sh E : Int → Int → Int} {p what : Int} (hW : Comp w D n mi hi Di ni mj sh E) (hB : CarOK D n mi) (hI : CarOK Di ni mj) (hhi : hi = 0 ∨ hi = 1) (hsh : ShOK sh E) (hp : inI p) (hwh : inI what) : Call l m_Top_part false 68 68 [aR 0, aI p, aI what] w (jC w (partA D n p what) D n mi hi Di ni mj sh E) := by
  have hT := TS.rf hW
  obtain ⟨hO, hK, hC, ⟨Dt, nt, mt, hCt⟩, hCi, hS34, hSh, ⟨po, hPo⟩, ⟨di, hDi⟩⟩ := hW
  obtain ⟨hn, hD, hs0, hs1, hs2, hs3⟩ := id hB
  refine Call.of (L := [some (aR 0), some (aI p), some (aI what)]) rfl (Nat.le_of_ble_eq_true rfl) rfl (fun G ad => ?_)
  refine j_aload_n (pc' := 1) (z := 0) dX11_part_0 rfl rfl ?_
  refine j_get (pc' := 4) (v := aR 10) dX11_part_1 rfl f_Top_42 (by omega) hO rfl ?_
  refine j_iload_n (pc' := 5) (z := p) dX11_part_4 rfl rfl ?_
  refine j_callV (pc' := 8) (as := [aI p]) (rest := []) dX11_part_5 rfl s_Top_92 (c_Car_has hC hB (by omega) (by omega)) (by omega) hC.1 rfl rfl rfl rfl (jdet (st' := [aB (0 ≤ p ∧ p < n)]) rfl ?_)
  refine j_ifb_ne (tgt := 13) (pc' := 11) dX11_part_8 (by decide) rfl (fun h8 => ?_) (fun h8 => ?_)
  · refine j_iload_n (pc' := 14) (z := what) dX11_part_13 rfl rfl ?_
    have hx14 : -2147483648 ≤ what ∧ what ≤ 2147483647 := (by omega)
    rcases (show what = 0 ∨ what = 1 ∨ what = 2 ∨ what = 3 ∨ what = 4 ∨ what = 5 ∨ what = 6 ∨ what = 7 ∨ (what < 0 ∨ 7 < what) by omega) with h14 | h14 | h14 | h14 | h14 | h14 | h14 | h14 | h14
    · refine j_tsw (tgt := 60) dX11_part_14 hx14 (by omega) (by rw [h14]; rfl) (by decide) ?_
      refine j_aload_n (pc' := 61) (z := 0) dX11_part_60 rfl rfl ?_
      refine j_get (pc' := 64) (v := aR 10) dX11_part_61 rfl f_Top_42 (by omega) hO rfl ?_
      refine j_get (pc' := 67) (v := aR (10 + 1)) dX11_part_64 rfl f_Top_96 (by omega) hC.1 rfl ?_
      refine j_iload_n (pc' := 68) (z := p) dX11_part_67 rfl rfl ?_
      refine j_iald (pc' := 69) dX11_part_68 rfl (by omega) hC.2.1 (by omega) (by decide) ?_
      exact j_iret dX11_part_69 rfl (jC_of (by unfold partA lds; simp [*]) hT)
    · refine j_tsw (tgt := 70) dX11_part_14 hx14 (by omega) (by rw [h14]; rfl) (by decide) ?_
      refine j_aload_n (pc' := 71) (z := 0) dX11_part_70 rfl rfl ?_
      refine j_get (pc' := 74) (v := aR 10) dX11_part_71 rfl f_Top_42 (by omega) hO rfl ?_
      refine j_get (pc' := 77) (v := aR (10 + 2)) dX11_part_74 rfl f_Top_99 (by omega) hC.1 rfl ?_
      refine j_iload_n (pc' := 78) (z := p) dX11_part_77 rfl rfl ?_
      refine j_iald (pc' := 79) dX11_part_78 rfl (by omega) hC.2.2.1 (by omega) (by decide) ?_
      exact j_iret dX11_part_79 rfl (jC_of (by unfold partA lds; simp [*]) hT)
    · refine j_tsw (tgt := 80) dX11_part_14 hx14 (by omega) (by rw [h14]; rfl) (by decide) ?_
      refine j_aload_n (pc' := 81) (z := 0) dX11_part_80 rfl rfl ?_
      refine j_get (pc' := 84) (v := aR 10) dX11_part_81 rfl f_Top_42 (by omega) hO rfl ?_
      refine j_get (pc' := 87) (v := aR (10 + 3)) dX11_part_84 rfl f_Top_102 (by omega) hC.1 rfl ?_
      refine j_iload_n (pc' := 88) (z := p) dX11_part_87 rfl rfl ?_
      refine j_iald (pc' := 89) dX11_part_88 rfl (by omega) hC.2.2.2.1 (by omega) (by decide) ?_
      exact j_iret dX11_part_89 rfl (jC_of (by unfold partA lds; simp [*]) hT)
    · refine j_tsw (tgt := 90) dX11_part_14 hx14 (by omega) (by rw [h14]; rfl) (by decide) ?_
      refine j_aload_n (pc' := 91) (z := 0) dX11_part_90 rfl rfl ?_
      refine j_get (pc' := 94) (v := aR 10) dX11_part_91 rfl f_Top_42 (by omega) hO rfl ?_
      refine j_get (pc' := 97) (v := aR (10 + 4)) dX11_part_94 rfl f_Top_105 (by omega) hC.1 rfl ?_
      refine j_iload_n (pc' := 98) (z := p) dX11_part_97 rfl rfl ?_
      refine j_iald (pc' := 99) dX11_part_98 rfl (by omega) hC.2.2.2.2.1 (by omega) (by decide) ?_
      exact j_iret dX11_part_99 rfl (jC_of (by unfold partA lds; simp [*]) hT)
    · refine j_tsw (tgt := 100) dX11_part_14 hx14 (by omega) (by rw [h14]; rfl) (by decide) ?_
      refine j_aload_n (pc' := 101) (z := 0) dX11_part_100 rfl rfl ?_
      refine j_get (pc' := 104) (v := aR 10) dX11_part_101 rfl f_Top_42 (by omega) hO rfl ?_
      refine j_get (pc' := 107) (v := aR (10 + 5)) dX11_part_104 rfl f_Top_108 (by omega) hC.1 rfl ?_
      refine j_iload_n (pc' := 108) (z := p) dX11_part_107 rfl rfl ?_
      refine j_iald (pc' := 109) dX11_part_108 rfl (by omega) hC.2.2.2.2.2.1 (by omega) (by decide) ?_
      exact j_iret dX11_part_109 rfl (jC_of (by unfold partA lds; simp [*]) hT)
    · refine j_tsw (tgt := 110) dX11_part_14 hx14 (by omega) (by rw [h14]; rfl) (by decide) ?_
      refine j_aload_n (pc' := 111) (z := 0) dX11_part_110 rfl rfl ?_
      refine j_get (pc' := 114) (v := aR 10) dX11_part_111 rfl f_Top_42 (by omega) hO rfl ?_
      refine j_iload_n (pc' := 115) (z := p) dX11_part_114 rfl rfl ?_
      refine j_callV (pc' := 118) (as := [aI p]) (rest := []) dX11_part_115 rfl s_Top_111 (c_Car_loudNow hC hB hK (by omega) (by omega)) (by omega) hC.1 rfl rfl rfl rfl (jdet (st' := [aI (loud (D 0 p) (D 1 p) (D 6 0) (D 6 1) (D 6 2))]) rfl ?_)
      exact j_iret dX11_part_118 rfl (jC_of (by unfold partA lds; simp [*]) hT)
    · refine j_tsw (tgt := 119) dX11_part_14 hx14 (by omega) (by rw [h14]; rfl) (by decide) ?_
      refine j_aload_n (pc' := 120) (z := 0) dX11_part_119 rfl rfl ?_
      refine j_get (pc' := 123) (v := aR 10) dX11_part_120 rfl f_Top_42 (by omega) hO rfl ?_
      refine j_iload_n (pc' := 124) (z := p) dX11_part_123 rfl rfl ?_
      refine j_callV (pc' := 127) (as := [aI p]) (rest := []) dX11_part_124 rfl s_Top_114 (c_Car_seconds hC hB hK (by omega) (by omega)) (by omega) hC.1 rfl rfl rfl rfl (jdet (st' := [aI (secs (D 0 p) (D 1 p))]) rfl ?_)
      exact j_iret dX11_part_127 rfl (jC_of (by unfold partA lds; simp [*]) hT)
    · refine j_tsw (tgt := 128) dX11_part_14 hx14 (by omega) (by rw [h14]; rfl) (by decide) ?_
      refine j_aload_n (pc' := 129) (z := 0) dX11_part_128 rfl rfl ?_
      refine j_get (pc' := 132) (v := aR 10) dX11_part_129 rfl f_Top_42 (by omega) hO rfl ?_
      refine j_iload_n (pc' := 133) (z := p) dX11_part_132 rfl rfl ?_
      refine j_callV (pc' := 136) (as := [aI p]) (rest := []) dX11_part_133 rfl s_Top_117 (c_Car_loosening hC hB hK (by omega) (by omega)) (by omega) hC.1 rfl rfl rfl rfl (jdet (st' := [aI (loos (D 0 p))]) rfl ?_)
      exact j_iret dX11_part_136 rfl (jC_of (by unfold partA lds; simp [*]) hT)
    · refine j_tswd (tgt := 137) dX11_part_14 hx14 h14 (by decide) ?_
      refine j_iconst (pc' := 138) dX11_part_137 rfl ?_
      exact j_iret dX11_part_138 rfl (jC_of (by unfold partA; (repeat' split) <;> first | rfl | omega) hT)
  · refine j_iconst (pc' := 12) dX11_part_11 rfl ?_
    exact j_iret dX11_part_12 rfl (jC_of (by unfold partA; (repeat' split) <;> first | rfl | omega) hT)
set_option maxRecDepth 100000 in
set_option maxHeartbeats 4000000 in
theorem c_Top_adds {l : Launch} {w : AW} {D Di : Int → Int → Int} {n mi hi ni mj : Int} {sh E : Int → Int → Int} {d s v : Int} (hW : Comp w D n mi hi Di ni mj sh E) (hB : CarOK D n mi) (hI : CarOK Di ni mj) (hhi : hi = 0 ∨ hi = 1) (hsh : ShOK sh E) (hd : inI d) (hs : inI s) (hv : inI v) : Call l m_Top_adds false 68 68 [aR 0, aI d, aI s, aI v] w (jC w (addsA sh n d s v) (addsD D sh n d s v) (addsN sh n d s v) mi hi Di ni mj sh E) := by
  have hT := TS.rf hW
  obtain ⟨hO, hK, hC, ⟨Dt, nt, mt, hCt⟩, hCi, hS34, hSh, ⟨po, hPo⟩, ⟨di, hDi⟩⟩ := hW
  obtain ⟨hn, hD, hs0, hs1, hs2, hs3⟩ := id hB
  refine Call.of (L := [some (aR 0), some (aI d), some (aI s), some (aI v), none]) rfl (Nat.le_of_ble_eq_true rfl) rfl (fun G ad => ?_)
  refine j_iload_n (pc' := 1) (z := d) dX11_adds_0 rfl rfl ?_
  refine j_callS (pc' := 4) (as := [aI d]) (rest := []) dX11_adds_1 rfl s_Top_120 (c_isShelf (by omega)) rfl rfl rfl (jdet (st' := [aB (0 ≤ d ∧ d ≤ 7)]) rfl ?_)
  refine j_ifb_eq (tgt := 24) (pc' := 7) dX11_adds_4 (by decide) rfl (fun h4 => ?_) (fun h4 => ?_)
  · refine j_iconst (pc' := 25) dX11_adds_24 rfl ?_
    exact j_iret dX11_adds_25 rfl (jC_of (by unfold addsA; (repeat' split) <;> first | rfl | omega) (by rw [show addsD D sh n d s v = D from if_neg (by omega), show addsN sh n d s v = n from if_neg (by omega)]; exact hT))
  · refine j_iload_n (pc' := 8) (z := s) dX11_adds_7 rfl rfl ?_
    refine j_callS (pc' := 11) (as := [aI s]) (rest := []) dX11_adds_8 rfl s_Top_123 (c_isSeat (by omega)) rfl rfl rfl (jdet (st' := [aB (0 ≤ s ∧ s ≤ 3)]) rfl ?_)
    refine j_ifb_eq (tgt := 24) (pc' := 14) dX11_adds_11 (by decide) rfl (fun h11 => ?_) (fun h11 => ?_)
    · refine j_iconst (pc' := 25) dX11_adds_24 rfl ?_
      exact j_iret dX11_adds_25 rfl (jC_of (by unfold addsA; (repeat' split) <;> first | rfl | omega) (by rw [show addsD D sh n d s v = D from if_neg (by omega), show addsN sh n d s v = n from if_neg (by omega)]; exact hT))
    · refine j_iload_n (pc' := 15) (z := v) dX11_adds_14 rfl rfl ?_
      refine j_iconst (pc' := 16) dX11_adds_15 rfl ?_
      refine j_bipush (pc' := 18) dX11_adds_16 rfl (by decide) ?_
      refine j_callS (pc' := 21) (as := [aI v, aI 1, aI 9]) (rest := []) dX11_adds_18 rfl s_Top_126 (c_within (by omega) (by omega) (by omega)) rfl rfl rfl (jdet (st' := [aB (1 ≤ v ∧ v ≤ 9)]) rfl ?_)
      refine j_ifb_ne (tgt := 26) (pc' := 24) dX11_adds_21 (by decide) rfl (fun h21 => ?_) (fun h21 => ?_)
      · obtain ⟨q1, q2, q3, q4, q5, q6⟩ := hsh d (by omega)
        refine j_aload_n (pc' := 27) (z := 0) dX11_adds_26 rfl rfl ?_
        refine j_get (pc' := 30) (v := aR 34) dX11_adds_27 rfl f_Top_58 (by omega) hO rfl ?_
        refine j_iload_n (pc' := 31) (z := d) dX11_adds_30 rfl rfl ?_
        refine j_aald (pc' := 32) (r := (35 + 2 * (d).toNat)) (Cn := "RattleAtFifty$Shelf") dX11_adds_31 rfl (by omega) hS34 rfl (by omega) (by decide) rfl ?_
        refine j_callV (pc' := 35) (as := []) (rest := []) dX11_adds_32 rfl s_Top_130 (c_Shelf_refusalAsKind (hSh d (by omega)) (hsh d (by omega)) (by omega)) (by omega) (hSh d (by omega)).1 rfl rfl rfl rfl (jdet (st' := [aI (refK (sh 0 d))]) rfl ?_)
        refine j_istore (pc' := 37) (L' := [some (aR 0), some (aI d), some (aI s), some (aI v), some (aI (refK (sh 0 d)))]) dX11_adds_35 rfl (by decide) rfl ?_
        refine j_iload (pc' := 39) (z := (refK (sh 0 d))) dX11_adds_37 rfl rfl ?_
        have hrk : -12 ≤ refK (sh 0 d) ∧ refK (sh 0 d) ≤ 0 := by unfold refK; (repeat' split) <;> omega
        refine j_if_eq (tgt := 45) (pc' := 42) dX11_adds_39 (by decide) rfl (by omega) (fun h39 => ?_) (fun h39 => ?_)
        · refine j_aload_n (pc' := 46) (z := 0) dX11_adds_45 rfl rfl ?_
          refine j_get (pc' := 49) (v := aR 10) dX11_adds_46 rfl f_Top_42 (by omega) hO rfl ?_
          refine j_aload_n (pc' := 50) (z := 0) dX11_adds_49 rfl rfl ?_
          refine j_get (pc' := 53) (v := aR 34) dX11_adds_50 rfl f_Top_58 (by omega) hO rfl ?_
          refine j_iload_n (pc' := 54) (z := d) dX11_adds_53 rfl rfl ?_
          refine j_aald (pc' := 55) (r := (35 + 2 * (d).toNat)) (Cn := "RattleAtFifty$Shelf") dX11_adds_54 rfl (by omega) hS34 rfl (by omega) (by decide) rfl ?_
          refine j_get (pc' := 58) (v := aI (sh 1 d)) dX11_adds_55 rfl f_Top_134 (by omega) (hSh d (by omega)).1 rfl ?_
          refine j_aload_n (pc' := 59) (z := 0) dX11_adds_58 rfl rfl ?_
          refine j_get (pc' := 62) (v := aR 34) dX11_adds_59 rfl f_Top_58 (by omega) hO rfl ?_
          refine j_iload_n (pc' := 63) (z := d) dX11_adds_62 rfl rfl ?_
          refine j_aald (pc' := 64) (r := (35 + 2 * (d).toNat)) (Cn := "RattleAtFifty$Shelf") dX11_adds_63 rfl (by omega) hS34 rfl (by omega) (by decide) rfl ?_
          refine j_get (pc' := 67) (v := aI (sh 2 d)) dX11_adds_64 rfl f_Top_136 (by omega) (hSh d (by omega)).1 rfl ?_
          refine j_iload_n (pc' := 68) (z := s) dX11_adds_67 rfl rfl ?_
          refine j_iload_n (pc' := 69) (z := v) dX11_adds_68 rfl rfl ?_
          refine j_callV (pc' := 72) (as := [aI (sh 1 d), aI (sh 2 d), aI s, aI v]) (rest := []) dX11_adds_69 rfl s_Top_138 (c_Car_takeIn hC hB hK (by omega) (by omega) (by omega) (by omega) (by omega)) (by omega) hC.1 rfl rfl rfl rfl (jdet (st' := [aI (tiR n (sh 1 d) (sh 2 d) s v)]) rfl ?_)
          exact j_iret dX11_adds_72 rfl (jC_of (by unfold addsA; (repeat' split) <;> first | rfl | omega) (by rw [show addsD D sh n d s v = tiD D n (sh 1 d) (sh 2 d) s v from if_pos (by omega), show addsN sh n d s v = tiN n (sh 1 d) (sh 2 d) s v from if_pos (by omega)]; exact hT.car))
        · refine j_iload (pc' := 44) (z := (refK (sh 0 d))) dX11_adds_42 rfl rfl ?_
          exact j_iret dX11_adds_44 rfl (jC_of (by unfold addsA; (repeat' split) <;> first | rfl | omega) (by rw [show addsD D sh n d s v = D from if_neg (by omega), show addsN sh n d s v = n from if_neg (by omega)]; exact hT))
      · refine j_iconst (pc' := 25) dX11_adds_24 rfl ?_
        exact j_iret dX11_adds_25 rfl (jC_of (by unfold addsA; (repeat' split) <;> first | rfl | omega) (by rw [show addsD D sh n d s v = D from if_neg (by omega), show addsN sh n d s v = n from if_neg (by omega)]; exact hT))
set_option maxRecDepth 100000 in
set_option maxHeartbeats 4000000 in
theorem c_Top_holds {l : Launch} {w : AW} {D Di : Int → Int → Int} {n mi hi ni mj : Int} {sh E : Int → Int → Int} {p : Int} (hW : Comp w D n mi hi Di ni mj sh E) (hB : CarOK D n mi) (hI : CarOK Di ni mj) (hhi : hi = 0 ∨ hi = 1) (hsh : ShOK sh E) (hp : inI p) : Call l m_Top_holds false 68 68 [aR 0, aI p] w (jC w (holdR D n p) (holdD D n p) n mi hi Di ni mj sh E) := by
  have hT := TS.rf hW
  obtain ⟨hO, hK, hC, ⟨Dt, nt, mt, hCt⟩, hCi, hS34, hSh, ⟨po, hPo⟩, ⟨di, hDi⟩⟩ := hW
  obtain ⟨hn, hD, hs0, hs1, hs2, hs3⟩ := id hB
  refine Call.of (L := [some (aR 0), some (aI p)]) rfl (Nat.le_of_ble_eq_true rfl) rfl (fun G ad => ?_)
  refine j_aload_n (pc' := 1) (z := 0) dX11_holds_0 rfl rfl ?_
  refine j_get (pc' := 4) (v := aR 10) dX11_holds_1 rfl f_Top_42 (by omega) hO rfl ?_
  refine j_iload_n (pc' := 5) (z := p) dX11_holds_4 rfl rfl ?_
  refine j_callV (pc' := 8) (as := [aI p]) (rest := []) dX11_holds_5 rfl s_Top_142 (c_Car_hold hC hB hK (by omega) (by omega)) (by omega) hC.1 rfl rfl rfl rfl (jdet (st' := [aI (holdR D n p)]) rfl ?_)
  exact j_iret dX11_holds_8 rfl (jC_of (by rfl) hT.car)
set_option maxRecDepth 100000 in
set_option maxHeartbeats 4000000 in
theorem c_Top_wedges {l : Launch} {w : AW} {D Di : Int → Int → Int} {n mi hi ni mj : Int} {sh E : Int → Int → Int} {p : Int} (hW : Comp w D n mi hi Di ni mj sh E) (hB : CarOK D n mi) (hI : CarOK Di ni mj) (hhi : hi = 0 ∨ hi = 1) (hsh : ShOK sh E) (hp : inI p) : Call l m_Top_wedges false 68 68 [aR 0, aI p] w (jC w (wedR D n p) (wedD D n p) n mi hi Di ni mj sh E) := by
  have hT := TS.rf hW
  obtain ⟨hO, hK, hC, ⟨Dt, nt, mt, hCt⟩, hCi, hS34, hSh, ⟨po, hPo⟩, ⟨di, hDi⟩⟩ := hW
  obtain ⟨hn, hD, hs0, hs1, hs2, hs3⟩ := id hB
  refine Call.of (L := [some (aR 0), some (aI p)]) rfl (Nat.le_of_ble_eq_true rfl) rfl (fun G ad => ?_)
  refine j_aload_n (pc' := 1) (z := 0) dX11_wedges_0 rfl rfl ?_
  refine j_get (pc' := 4) (v := aR 10) dX11_wedges_1 rfl f_Top_42 (by omega) hO rfl ?_
  refine j_iload_n (pc' := 5) (z := p) dX11_wedges_4 rfl rfl ?_
  refine j_callV (pc' := 8) (as := [aI p]) (rest := []) dX11_wedges_5 rfl s_Top_145 (c_Car_wedge hC hB hK (by omega) (by omega)) (by omega) hC.1 rfl rfl rfl rfl (jdet (st' := [aI (wedR D n p)]) rfl ?_)
  exact j_iret dX11_wedges_8 rfl (jC_of (by rfl) hT.car)
set_option maxRecDepth 100000 in
set_option maxHeartbeats 4000000 in
theorem c_Top_outs {l : Launch} {w : AW} {D Di : Int → Int → Int} {n mi hi ni mj : Int} {sh E : Int → Int → Int} {p : Int} (hW : Comp w D n mi hi Di ni mj sh E) (hB : CarOK D n mi) (hI : CarOK Di ni mj) (hhi : hi = 0 ∨ hi = 1) (hsh : ShOK sh E) (hp : inI p) : Call l m_Top_outs false 68 68 [aR 0, aI p] w (jC w (outR D n p) (outD D n p) n mi hi Di ni mj sh E) := by
  have hT := TS.rf hW
  obtain ⟨hO, hK, hC, ⟨Dt, nt, mt, hCt⟩, hCi, hS34, hSh, ⟨po, hPo⟩, ⟨di, hDi⟩⟩ := hW
  obtain ⟨hn, hD, hs0, hs1, hs2, hs3⟩ := id hB
  refine Call.of (L := [some (aR 0), some (aI p)]) rfl (Nat.le_of_ble_eq_true rfl) rfl (fun G ad => ?_)
  refine j_aload_n (pc' := 1) (z := 0) dX11_outs_0 rfl rfl ?_
  refine j_get (pc' := 4) (v := aR 10) dX11_outs_1 rfl f_Top_42 (by omega) hO rfl ?_
  refine j_iload_n (pc' := 5) (z := p) dX11_outs_4 rfl rfl ?_
  refine j_callV (pc' := 8) (as := [aI p]) (rest := []) dX11_outs_5 rfl s_Top_148 (c_Car_takeOut hC hB hK (by omega) (by omega)) (by omega) hC.1 rfl rfl rfl rfl (jdet (st' := [aI (outR D n p)]) rfl ?_)
  exact j_iret dX11_outs_8 rfl (jC_of (by rfl) hT.car)
set_option maxRecDepth 100000 in
set_option maxHeartbeats 4000000 in
theorem c_Top_screws {l : Launch} {w : AW} {D Di : Int → Int → Int} {n mi hi ni mj : Int} {sh E : Int → Int → Int} {p : Int} (hW : Comp w D n mi hi Di ni mj sh E) (hB : CarOK D n mi) (hI : CarOK Di ni mj) (hhi : hi = 0 ∨ hi = 1) (hsh : ShOK sh E) (hp : inI p) : Call l m_Top_screws false 68 68 [aR 0, aI p] w (jC w (scrR D n p) (scwD D n p) n mi hi Di ni mj sh E) := by
  have hT := TS.rf hW
  obtain ⟨hO, hK, hC, ⟨Dt, nt, mt, hCt⟩, hCi, hS34, hSh, ⟨po, hPo⟩, ⟨di, hDi⟩⟩ := hW
  obtain ⟨hn, hD, hs0, hs1, hs2, hs3⟩ := id hB
  refine Call.of (L := [some (aR 0), some (aI p)]) rfl (Nat.le_of_ble_eq_true rfl) rfl (fun G ad => ?_)
  refine j_aload_n (pc' := 1) (z := 0) dX11_screws_0 rfl rfl ?_
  refine j_get (pc' := 4) (v := aR 10) dX11_screws_1 rfl f_Top_42 (by omega) hO rfl ?_
  refine j_iload_n (pc' := 5) (z := p) dX11_screws_4 rfl rfl ?_
  refine j_callV (pc' := 8) (as := [aI p]) (rest := []) dX11_screws_5 rfl s_Top_151 (c_Car_screw hC hB hK (by omega) (by omega)) (by omega) hC.1 rfl rfl rfl rfl (jdet (st' := [aI (scrR D n p)]) rfl ?_)
  exact j_iret dX11_screws_8 rfl (jC_of (by rfl) hT.car)
set_option maxRecDepth 100000 in
set_option maxHeartbeats 4000000 in
theorem c_Top_set {l : Launch} {w : AW} {D Di : Int → Int → Int} {n mi hi ni mj : Int} {sh E : Int → Int → Int} {p v : Int} (hW : Comp w D n mi hi Di ni mj sh E) (hB : CarOK D n mi) (hI : CarOK Di ni mj) (hhi : hi = 0 ∨ hi = 1) (hsh : ShOK sh E) (hp : inI p) (hv : inI v) : Call l m_Top_set false 68 68 [aR 0, aI p, aI v] w (jC w (chR D p v) (chD D p v) n mi hi Di ni mj sh E) := by
  have hT := TS.rf hW
  obtain ⟨hO, hK, hC, ⟨Dt, nt, mt, hCt⟩, hCi, hS34, hSh, ⟨po, hPo⟩, ⟨di, hDi⟩⟩ := hW
  obtain ⟨hn, hD, hs0, hs1, hs2, hs3⟩ := id hB
  refine Call.of (L := [some (aR 0), some (aI p), some (aI v)]) rfl (Nat.le_of_ble_eq_true rfl) rfl (fun G ad => ?_)
  refine j_aload_n (pc' := 1) (z := 0) dX11_set_0 rfl rfl ?_
  refine j_get (pc' := 4) (v := aR 10) dX11_set_1 rfl f_Top_42 (by omega) hO rfl ?_
  refine j_iload_n (pc' := 5) (z := p) dX11_set_4 rfl rfl ?_
  refine j_iload_n (pc' := 6) (z := v) dX11_set_5 rfl rfl ?_
  refine j_callV (pc' := 9) (as := [aI p, aI v]) (rest := []) dX11_set_6 rfl s_Top_154 (c_Car_change hC hB hK (by omega) (by omega) (by omega)) (by omega) hC.1 rfl rfl rfl rfl (jdet (st' := [aI (chR D p v)]) rfl ?_)
  exact j_iret dX11_set_9 rfl (jC_of (by rfl) hT.car)
set_option maxRecDepth 100000 in
set_option maxHeartbeats 4000000 in
theorem c_Top_drives {l : Launch} {w : AW} {D Di : Int → Int → Int} {n mi hi ni mj : Int} {sh E : Int → Int → Int} {x : Int} (hW : Comp w D n mi hi Di ni mj sh E) (hB : CarOK D n mi) (hI : CarOK Di ni mj) (hhi : hi = 0 ∨ hi = 1) (hsh : ShOK sh E) (hx : inI x) : Call l m_Top_drives false 68 68 [aR 0, aI x] w (jC w (drivesA D n mi x) (drD D n mi x) n (drM mi x) hi Di ni mj sh E) := by
  have hT := TS.rf hW
  obtain ⟨hO, hK, hC, ⟨Dt, nt, mt, hCt⟩, hCi, hS34, hSh, ⟨po, hPo⟩, ⟨di, hDi⟩⟩ := hW
  obtain ⟨hn, hD, hs0, hs1, hs2, hs3⟩ := id hB
  refine Call.of (L := [some (aR 0), some (aI x), none, none]) rfl (Nat.le_of_ble_eq_true rfl) rfl (fun G ad => ?_)
  refine j_aload_n (pc' := 1) (z := 0) dX11_drives_0 rfl rfl ?_
  refine j_get (pc' := 4) (v := aR 10) dX11_drives_1 rfl f_Top_42 (by omega) hO rfl ?_
  refine j_iconst (pc' := 5) dX11_drives_4 rfl ?_
  refine j_callV (pc' := 8) (as := [aI 0]) (rest := []) dX11_drives_5 rfl s_Top_158 (c_Car_heardNow hC hB hK (by omega) (by omega)) (by omega) hC.1 rfl rfl rfl rfl (jdet (st' := [aI (hrd D n 0 (D 6 0))]) rfl ?_)
  refine j_istore_n (pc' := 9) (L' := [some (aR 0), some (aI x), some (aI (hrd D n 0 (D 6 0))), none]) dX11_drives_8 rfl (by decide) rfl ?_
  refine j_aload_n (pc' := 10) (z := 0) dX11_drives_9 rfl rfl ?_
  refine j_get (pc' := 13) (v := aR 10) dX11_drives_10 rfl f_Top_42 (by omega) hO rfl ?_
  refine j_iload_n (pc' := 14) (z := x) dX11_drives_13 rfl rfl ?_
  refine j_callV (pc' := 17) (as := [aI x]) (rest := []) dX11_drives_14 rfl s_Top_161 (c_Car_drive hC hB hK (by omega) (by omega)) (by omega) hC.1 rfl rfl rfl rfl (jdet (st' := [aI (drR mi x)]) rfl ?_)
  refine j_istore_n (pc' := 18) (L' := [some (aR 0), some (aI x), some (aI (hrd D n 0 (D 6 0))), some (aI (drR mi x))]) dX11_drives_17 rfl (by decide) rfl ?_
  refine j_iload_n (pc' := 19) (z := (drR mi x)) dX11_drives_18 rfl rfl ?_
  have hdr : -3 ≤ drR mi x ∧ drR mi x ≤ 0 := by unfold drR; (repeat' split) <;> omega
  refine j_if_eq (tgt := 26) (pc' := 22) dX11_drives_19 (by decide) rfl (by omega) (fun h19 => ?_) (fun h19 => ?_)
  · refine j_iload_n (pc' := 27) (z := (hrd D n 0 (D 6 0))) dX11_drives_26 rfl rfl ?_
    exact j_iret dX11_drives_27 rfl (jC_of (by unfold drivesA; (repeat' split) <;> first | rfl | omega) hT.car)
  · refine j_iload_n (pc' := 23) (z := (drR mi x)) dX11_drives_22 rfl rfl ?_
    refine j_goto (pc' := 27) dX11_drives_23 (by decide) ?_
    exact j_iret dX11_drives_27 rfl (jC_of (by unfold drivesA; (repeat' split) <;> first | rfl | omega) hT.car)
set_option maxRecDepth 100000 in
set_option maxHeartbeats 4000000 in
theorem c_Top_heard {l : Launch} {w : AW} {D Di : Int → Int → Int} {n mi hi ni mj : Int} {sh E : Int → Int → Int} {s p : Int} (hW : Comp w D n mi hi Di ni mj sh E) (hB : CarOK D n mi) (hI : CarOK Di ni mj) (hhi : hi = 0 ∨ hi = 1) (hsh : ShOK sh E) (hs : inI s) (hp : inI p) : Call l m_Top_heard false 68 68 [aR 0, aI s, aI p] w (jC w (heardA D n s p) D n mi hi Di ni mj sh E) := by
  have hT := TS.rf hW
  obtain ⟨hO, hK, hC, ⟨Dt, nt, mt, hCt⟩, hCi, hS34, hSh, ⟨po, hPo⟩, ⟨di, hDi⟩⟩ := hW
  obtain ⟨hn, hD, hs0, hs1, hs2, hs3⟩ := id hB
  refine Call.of (L := [some (aR 0), some (aI s), some (aI p)]) rfl (Nat.le_of_ble_eq_true rfl) rfl (fun G ad => ?_)
  refine j_iload_n (pc' := 1) (z := s) dX11_heard_0 rfl rfl ?_
  refine j_callS (pc' := 4) (as := [aI s]) (rest := []) dX11_heard_1 rfl s_Top_123 (c_isSeat (by omega)) rfl rfl rfl (jdet (st' := [aB (0 ≤ s ∧ s ≤ 3)]) rfl ?_)
  refine j_ifb_eq (tgt := 14) (pc' := 7) dX11_heard_4 (by decide) rfl (fun h4 => ?_) (fun h4 => ?_)
  · refine j_iconst (pc' := 15) dX11_heard_14 rfl ?_
    exact j_iret dX11_heard_15 rfl (jC_of (by unfold heardA; (repeat' split) <;> first | rfl | omega) hT)
  · refine j_iload_n (pc' := 8) (z := p) dX11_heard_7 rfl rfl ?_
    refine j_callS (pc' := 11) (as := [aI p]) (rest := []) dX11_heard_8 rfl s_Top_164 (c_isPace (by omega)) rfl rfl rfl (jdet (st' := [aB (0 ≤ p ∧ p ≤ 99)]) rfl ?_)
    refine j_ifb_ne (tgt := 16) (pc' := 14) dX11_heard_11 (by decide) rfl (fun h11 => ?_) (fun h11 => ?_)
    · refine j_aload_n (pc' := 17) (z := 0) dX11_heard_16 rfl rfl ?_
      refine j_get (pc' := 20) (v := aR 10) dX11_heard_17 rfl f_Top_42 (by omega) hO rfl ?_
      refine j_iload_n (pc' := 21) (z := s) dX11_heard_20 rfl rfl ?_
      refine j_iload_n (pc' := 22) (z := p) dX11_heard_21 rfl rfl ?_
      refine j_callV (pc' := 25) (as := [aI s, aI p]) (rest := []) dX11_heard_22 rfl s_Top_167 (c_Car_heardAt hC hB hK (by omega) (by omega) (by omega)) (by omega) hC.1 rfl rfl rfl rfl (jdet (st' := [aI (hrd D n s p)]) rfl ?_)
      exact j_iret dX11_heard_25 rfl (jC_of (by unfold heardA; (repeat' split) <;> first | rfl | omega) hT)
    · refine j_iconst (pc' := 15) dX11_heard_14 rfl ?_
      exact j_iret dX11_heard_15 rfl (jC_of (by unfold heardA; (repeat' split) <;> first | rfl | omega) hT)
set_option maxRecDepth 100000 in
set_option maxHeartbeats 4000000 in
theorem c_Top_loudest {l : Launch} {w : AW} {D Di : Int → Int → Int} {n mi hi ni mj : Int} {sh E : Int → Int → Int} {s : Int} (hW : Comp w D n mi hi Di ni mj sh E) (hB : CarOK D n mi) (hI : CarOK Di ni mj) (hhi : hi = 0 ∨ hi = 1) (hsh : ShOK sh E) (hs : inI s) : Call l m_Top_loudest false 68 68 [aR 0, aI s] w (jC w (loudestA D n s) D n mi hi Di ni mj sh E) := by
  have hT := TS.rf hW
  obtain ⟨hO, hK, hC, ⟨Dt, nt, mt, hCt⟩, hCi, hS34, hSh, ⟨po, hPo⟩, ⟨di, hDi⟩⟩ := hW
  obtain ⟨hn, hD, hs0, hs1, hs2, hs3⟩ := id hB
  refine Call.of (L := [some (aR 0), some (aI s)]) rfl (Nat.le_of_ble_eq_true rfl) rfl (fun G ad => ?_)
  refine j_iload_n (pc' := 1) (z := s) dX11_loudest_0 rfl rfl ?_
  refine j_callS (pc' := 4) (as := [aI s]) (rest := []) dX11_loudest_1 rfl s_Top_123 (c_isSeat (by omega)) rfl rfl rfl (jdet (st' := [aB (0 ≤ s ∧ s ≤ 3)]) rfl ?_)
  refine j_ifb_eq (tgt := 18) (pc' := 7) dX11_loudest_4 (by decide) rfl (fun h4 => ?_) (fun h4 => ?_)
  · refine j_iconst (pc' := 19) dX11_loudest_18 rfl ?_
    exact j_iret dX11_loudest_19 rfl (jC_of (by unfold loudestA; (repeat' split) <;> first | rfl | omega) hT)
  · refine j_aload_n (pc' := 8) (z := 0) dX11_loudest_7 rfl rfl ?_
    refine j_get (pc' := 11) (v := aR 10) dX11_loudest_8 rfl f_Top_42 (by omega) hO rfl ?_
    refine j_iload_n (pc' := 12) (z := s) dX11_loudest_11 rfl rfl ?_
    refine j_callV (pc' := 15) (as := [aI s]) (rest := []) dX11_loudest_12 rfl s_Top_170 (c_Car_loudestAt hC hB hK (by omega) (by omega)) (by omega) hC.1 rfl rfl rfl rfl (jdet (st' := [aI ((lst D n s).1)]) rfl ?_)
    refine j_goto (pc' := 19) dX11_loudest_15 (by decide) ?_
    exact j_iret dX11_loudest_19 rfl (jC_of (by unfold loudestA; (repeat' split) <;> first | rfl | omega) hT)
set_option maxRecDepth 100000 in
set_option maxHeartbeats 4000000 in
theorem c_Top_radio {l : Launch} {w : AW} {D Di : Int → Int → Int} {n mi hi ni mj : Int} {sh E : Int → Int → Int} {s : Int} (hW : Comp w D n mi hi Di ni mj sh E) (hB : CarOK D n mi) (hI : CarOK Di ni mj) (hhi : hi = 0 ∨ hi = 1) (hsh : ShOK sh E) (hs : inI s) : Call l m_Top_radio false 68 68 [aR 0, aI s] w (jC w (radioA D n s) D n mi hi Di ni mj sh E) := by
  have hT := TS.rf hW
  obtain ⟨hO, hK, hC, ⟨Dt, nt, mt, hCt⟩, hCi, hS34, hSh, ⟨po, hPo⟩, ⟨di, hDi⟩⟩ := hW
  obtain ⟨hn, hD, hs0, hs1, hs2, hs3⟩ := id hB
  refine Call.of (L := [some (aR 0), some (aI s), none]) rfl (Nat.le_of_ble_eq_true rfl) rfl (fun G ad => ?_)
  refine j_iload_n (pc' := 1) (z := s) dX11_radio_0 rfl rfl ?_
  refine j_callS (pc' := 4) (as := [aI s]) (rest := []) dX11_radio_1 rfl s_Top_123 (c_isSeat (by omega)) rfl rfl rfl (jdet (st' := [aB (0 ≤ s ∧ s ≤ 3)]) rfl ?_)
  refine j_ifb_ne (tgt := 9) (pc' := 7) dX11_radio_4 (by decide) rfl (fun h4 => ?_) (fun h4 => ?_)
  · refine j_aload_n (pc' := 10) (z := 0) dX11_radio_9 rfl rfl ?_
    refine j_get (pc' := 13) (v := aR 10) dX11_radio_10 rfl f_Top_42 (by omega) hO rfl ?_
    refine j_iconst (pc' := 14) dX11_radio_13 rfl ?_
    refine j_iload_n (pc' := 15) (z := s) dX11_radio_14 rfl rfl ?_
    refine j_aload_n (pc' := 16) (z := 0) dX11_radio_15 rfl rfl ?_
    refine j_get (pc' := 19) (v := aR 10) dX11_radio_16 rfl f_Top_42 (by omega) hO rfl ?_
    refine j_get (pc' := 22) (v := aR (10 + 7)) dX11_radio_19 rfl f_Top_182 (by omega) hC.1 rfl ?_
    refine j_iconst (pc' := 23) dX11_radio_22 rfl ?_
    refine j_iald (pc' := 24) dX11_radio_23 rfl (by omega) hC.2.2.2.2.2.2.2 (by omega) (by decide) ?_
    refine j_callV (pc' := 27) (as := [aI 0, aI s, aI (D 6 0)]) (rest := []) dX11_radio_24 rfl s_Top_185 (c_Car_soundOfAllBut hC hB hK (by omega) (by omega) (by omega) (by omega)) (by omega) hC.1 rfl rfl rfl rfl (jdet (st' := [aI (sab D n 0 s (D 6 0))]) rfl ?_)
    refine j_istore_n (pc' := 28) (L' := [some (aR 0), some (aI s), some (aI (sab D n 0 s (D 6 0)))]) dX11_radio_27 rfl (by decide) rfl ?_
    refine j_iload_n (pc' := 29) (z := (sab D n 0 s (D 6 0))) dX11_radio_28 rfl rfl ?_
    refine j_bipush (pc' := 31) dX11_radio_29 rfl (by decide) ?_
    have hsb := sab_bd (set := 0) (seat := s) (pace := D 6 0) hB
    refine j_icmp_gt (tgt := 38) (pc' := 34) dX11_radio_31 (by decide) rfl (by omega) (by omega) (fun h31 => ?_) (fun h31 => ?_)
    · refine j_bipush (pc' := 40) dX11_radio_38 rfl (by decide) ?_
      exact j_iret dX11_radio_40 rfl (jC_of (by rw [show radioA D n s = (if sab D n 0 s (D 6 0) ≤ 40 then sab D n 0 s (D 6 0) else -4) by unfold radioA; rw [if_pos (by omega), sab0]]; (repeat' split) <;> first | rfl | omega) hT)
    · refine j_iload_n (pc' := 35) (z := (sab D n 0 s (D 6 0))) dX11_radio_34 rfl rfl ?_
      refine j_goto (pc' := 40) dX11_radio_35 (by decide) ?_
      exact j_iret dX11_radio_40 rfl (jC_of (by rw [show radioA D n s = (if sab D n 0 s (D 6 0) ≤ 40 then sab D n 0 s (D 6 0) else -4) by unfold radioA; rw [if_pos (by omega), sab0]]; (repeat' split) <;> first | rfl | omega) hT)
  · refine j_iconst (pc' := 8) dX11_radio_7 rfl ?_
    exact j_iret dX11_radio_8 rfl (jC_of (by unfold radioA; rw [if_neg (by omega)]) hT)
set_option maxRecDepth 100000 in
set_option maxHeartbeats 4000000 in
theorem c_Top_holdAll {l : Launch} {w : AW} {D Di : Int → Int → Int} {n mi hi ni mj : Int} {sh E : Int → Int → Int} {x : Int} (hW : Comp w D n mi hi Di ni mj sh E) (hB : CarOK D n mi) (hI : CarOK Di ni mj) (hhi : hi = 0 ∨ hi = 1) (hsh : ShOK sh E) (hx : inI x) : Call l m_Top_holdAll false 68 68 [aR 0, aI x] w (jC w (holdAllA D n x) D n mi hi Di ni mj sh E) := by
  have hT := TS.rf hW
  obtain ⟨hO, hK, hC, ⟨Dt, nt, mt, hCt⟩, hCi, hS34, hSh, ⟨po, hPo⟩, ⟨di, hDi⟩⟩ := hW
  obtain ⟨hn, hD, hs0, hs1, hs2, hs3⟩ := id hB
  refine Call.of (L := [some (aR 0), some (aI x), none]) rfl (Nat.le_of_ble_eq_true rfl) rfl (fun G ad => ?_)
  refine j_iload_n (pc' := 1) (z := x) dX11_holdAll_0 rfl rfl ?_
  refine j_callS (pc' := 4) (as := [aI x]) (rest := []) dX11_holdAll_1 rfl s_Top_173 (c_isEither (by omega)) rfl rfl rfl (jdet (st' := [aB (0 ≤ x ∧ x ≤ 1)]) rfl ?_)
  refine j_ifb_ne (tgt := 9) (pc' := 7) dX11_holdAll_4 (by decide) rfl (fun h4 => ?_) (fun h4 => ?_)
  · refine j_aload_n (pc' := 10) (z := 0) dX11_holdAll_9 rfl rfl ?_
    refine j_get (pc' := 13) (v := aR 10) dX11_holdAll_10 rfl f_Top_42 (by omega) hO rfl ?_
    refine j_callV (pc' := 16) (as := []) (rest := []) dX11_holdAll_13 rfl s_Top_176 (c_Car_fewestToHold hC hB hK (by omega)) (by omega) hC.1 rfl rfl rfl rfl (jdet (st' := [aI (fth D n (2 ^ (Int.toNat n)))]) rfl ?_)
    refine j_istore_n (pc' := 17) (L' := [some (aR 0), some (aI x), some (aI (fth D n (2 ^ (Int.toNat n))))]) dX11_holdAll_16 rfl (by decide) rfl ?_
    have hpw := pow7 (n := n) (by omega)
    have hfb := fth_bd (x := 2 ^ n.toNat) hB (by omega) (by omega)
    refine j_iload_n (pc' := 18) (z := x) dX11_holdAll_17 rfl rfl ?_
    refine j_if_ne (tgt := 25) (pc' := 21) dX11_holdAll_18 (by decide) rfl (by omega) (fun h18 => ?_) (fun h18 => ?_)
    · refine j_aload_n (pc' := 26) (z := 0) dX11_holdAll_25 rfl rfl ?_
      refine j_get (pc' := 29) (v := aR 10) dX11_holdAll_26 rfl f_Top_42 (by omega) hO rfl ?_
      refine j_iload_n (pc' := 30) (z := (fth D n (2 ^ (Int.toNat n)))) dX11_holdAll_29 rfl rfl ?_
      refine j_callV (pc' := 33) (as := [aI (fth D n (2 ^ (Int.toNat n)))]) (rest := []) dX11_holdAll_30 rfl s_Top_179 (c_Car_secondsOf hC hB hK (by omega) (by omega)) (by omega) hC.1 rfl rfl rfl rfl (jdet (st' := [aI (secO D n (fth D n (2 ^ (Int.toNat n))))]) rfl ?_)
      exact j_iret dX11_holdAll_33 rfl (jC_of (by unfold holdAllA; (repeat' split) <;> first | rfl | omega) hT)
    · refine j_iload_n (pc' := 22) (z := (fth D n (2 ^ (Int.toNat n)))) dX11_holdAll_21 rfl rfl ?_
      refine j_goto (pc' := 33) dX11_holdAll_22 (by decide) ?_
      exact j_iret dX11_holdAll_33 rfl (jC_of (by unfold holdAllA; (repeat' split) <;> first | rfl | omega) hT)
  · refine j_iconst (pc' := 8) dX11_holdAll_7 rfl ?_
    exact j_iret dX11_holdAll_8 rfl (jC_of (by unfold holdAllA; (repeat' split) <;> first | rfl | omega) hT)
set_option maxRecDepth 100000 in
set_option maxHeartbeats 4000000 in
theorem c_Top_worth {l : Launch} {w : AW} {D Di : Int → Int → Int} {n mi hi ni mj : Int} {sh E : Int → Int → Int} {v : Int} (hW : Comp w D n mi hi Di ni mj sh E) (hB : CarOK D n mi) (hI : CarOK Di ni mj) (hhi : hi = 0 ∨ hi = 1) (hsh : ShOK sh E) (hv : inI v) : Call l m_Top_worth false 68 68 [aR 0, aI v] w (jC w (worthA D n v) D n mi hi Di ni mj sh E) := by
  have hT := TS.rf hW
  obtain ⟨hO, hK, hC, ⟨Dt, nt, mt, hCt⟩, hCi, hS34, hSh, ⟨po, hPo⟩, ⟨di, hDi⟩⟩ := hW
  obtain ⟨hn, hD, hs0, hs1, hs2, hs3⟩ := id hB
  refine Call.of (L := [some (aR 0), some (aI v), none]) rfl (Nat.le_of_ble_eq_true rfl) rfl (fun G ad => ?_)
  refine j_iload_n (pc' := 1) (z := v) dX11_worth_0 rfl rfl ?_
  refine j_iconst (pc' := 2) dX11_worth_1 rfl ?_
  refine j_sipush (pc' := 5) dX11_worth_2 rfl (by decide) ?_
  refine j_callS (pc' := 8) (as := [aI v, aI 0, aI 9999]) (rest := []) dX11_worth_5 rfl s_Top_126 (c_within (by omega) (by omega) (by omega)) rfl rfl rfl (jdet (st' := [aB (0 ≤ v ∧ v ≤ 9999)]) rfl ?_)
  refine j_ifb_ne (tgt := 13) (pc' := 11) dX11_worth_8 (by decide) rfl (fun h8 => ?_) (fun h8 => ?_)
  · refine j_aload_n (pc' := 14) (z := 0) dX11_worth_13 rfl rfl ?_
    refine j_get (pc' := 17) (v := aR 10) dX11_worth_14 rfl f_Top_42 (by omega) hO rfl ?_
    refine j_iconst (pc' := 18) dX11_worth_17 rfl ?_
    refine j_callV (pc' := 21) (as := [aI 0]) (rest := []) dX11_worth_18 rfl s_Top_158 (c_Car_heardNow hC hB hK (by omega) (by omega)) (by omega) hC.1 rfl rfl rfl rfl (jdet (st' := [aI (hrd D n 0 (D 6 0))]) rfl ?_)
    refine j_istore_n (pc' := 22) (L' := [some (aR 0), some (aI v), some (aI (hrd D n 0 (D 6 0)))]) dX11_worth_21 rfl (by decide) rfl ?_
    refine j_iload_n (pc' := 23) (z := (hrd D n 0 (D 6 0))) dX11_worth_22 rfl rfl ?_
    have hhb := hrd_bd (seat := 0) (pace := D 6 0) hB
    refine j_if_gt (tgt := 29) (pc' := 26) dX11_worth_23 (by decide) rfl (by omega) (fun h23 => ?_) (fun h23 => ?_)
    · refine j_iload_n (pc' := 30) (z := v) dX11_worth_29 rfl rfl ?_
      refine j_iload_n (pc' := 31) (z := (hrd D n 0 (D 6 0))) dX11_worth_30 rfl rfl ?_
      refine j_idiv (pc' := 32) dX11_worth_31 rfl (by omega) (by omega) ?_
      refine j_bipush (pc' := 34) dX11_worth_32 rfl (by decide) ?_
      refine j_mmin (pc' := 37) dX11_worth_34 rfl s_Top_216 rfl (by have hq1 := Int.ediv_nonneg (a := v) (b := hrd D n 0 (D 6 0)) (by omega) (by omega); have hq2 := Int.ediv_le_self (a := v) (hrd D n 0 (D 6 0)) (by omega); omega) (by have hq1 := Int.ediv_nonneg (a := v) (b := hrd D n 0 (D 6 0)) (by omega) (by omega); have hq2 := Int.ediv_le_self (a := v) (hrd D n 0 (D 6 0)) (by omega); omega) ?_
      exact j_iret dX11_worth_37 rfl (jC_of (by unfold worthA; (repeat' split) <;> first | rfl | omega) hT)
    · refine j_bipush (pc' := 28) dX11_worth_26 rfl (by decide) ?_
      exact j_iret dX11_worth_28 rfl (jC_of (by unfold worthA; (repeat' split) <;> first | rfl | omega) hT)
  · refine j_iconst (pc' := 12) dX11_worth_11 rfl ?_
    exact j_iret dX11_worth_12 rfl (jC_of (by unfold worthA; (repeat' split) <;> first | rfl | omega) hT)
set_option maxRecDepth 100000 in
set_option maxHeartbeats 4000000 in
theorem c_Top_count {l : Launch} {w : AW} {D Di : Int → Int → Int} {n mi hi ni mj : Int} {sh E : Int → Int → Int} {x : Int} (hW : Comp w D n mi hi Di ni mj sh E) (hB : CarOK D n mi) (hI : CarOK Di ni mj) (hhi : hi = 0 ∨ hi = 1) (hsh : ShOK sh E) (hx : inI x) : Call l m_Top_count false 68 68 [aR 0, aI x] w (jC w (countA D n mi x) D n mi hi Di ni mj sh E) := by
  have hT := TS.rf hW
  obtain ⟨hO, hK, hC, ⟨Dt, nt, mt, hCt⟩, hCi, hS34, hSh, ⟨po, hPo⟩, ⟨di, hDi⟩⟩ := hW
  obtain ⟨hn, hD, hs0, hs1, hs2, hs3⟩ := id hB
  refine Call.of (L := [some (aR 0), some (aI x)]) rfl (Nat.le_of_ble_eq_true rfl) rfl (fun G ad => ?_)
  refine j_iload_n (pc' := 1) (z := x) dX11_count_0 rfl rfl ?_
  have hx1 : -2147483648 ≤ x ∧ x ≤ 2147483647 := (by omega)
  rcases (show x = 0 ∨ x = 1 ∨ x = 2 ∨ x = 3 ∨ x = 4 ∨ x = 5 ∨ x = 6 ∨ x = 7 ∨ (x < 0 ∨ 7 < x) by omega) with h1 | h1 | h1 | h1 | h1 | h1 | h1 | h1 | h1
  · refine j_tsw (tgt := 48) dX11_count_1 hx1 (by omega) (by rw [h1]; rfl) (by decide) ?_
    refine j_aload_n (pc' := 49) (z := 0) dX11_count_48 rfl rfl ?_
    refine j_get (pc' := 52) (v := aR 10) dX11_count_49 rfl f_Top_42 (by omega) hO rfl ?_
    refine j_get (pc' := 55) (v := aI n) dX11_count_52 rfl f_Top_203 (by omega) hC.1 rfl ?_
    exact j_iret dX11_count_55 rfl (jC_of (by unfold countA; simp [*]) hT)
  · refine j_tsw (tgt := 56) dX11_count_1 hx1 (by omega) (by rw [h1]; rfl) (by decide) ?_
    refine j_aload_n (pc' := 57) (z := 0) dX11_count_56 rfl rfl ?_
    refine j_get (pc' := 60) (v := aR 10) dX11_count_57 rfl f_Top_42 (by omega) hO rfl ?_
    refine j_get (pc' := 63) (v := aI mi) dX11_count_60 rfl f_Top_307 (by omega) hC.1 rfl ?_
    exact j_iret dX11_count_63 rfl (jC_of (by unfold countA; simp [*]) hT)
  · refine j_tsw (tgt := 64) dX11_count_1 hx1 (by omega) (by rw [h1]; rfl) (by decide) ?_
    refine j_aload_n (pc' := 65) (z := 0) dX11_count_64 rfl rfl ?_
    refine j_get (pc' := 68) (v := aR 10) dX11_count_65 rfl f_Top_42 (by omega) hO rfl ?_
    refine j_get (pc' := 71) (v := aR (10 + 7)) dX11_count_68 rfl f_Top_182 (by omega) hC.1 rfl ?_
    refine j_iconst (pc' := 72) dX11_count_71 rfl ?_
    refine j_iald (pc' := 73) dX11_count_72 rfl (by omega) hC.2.2.2.2.2.2.2 (by omega) (by decide) ?_
    exact j_iret dX11_count_73 rfl (jC_of (by unfold countA; simp [*]) hT)
  · refine j_tsw (tgt := 74) dX11_count_1 hx1 (by omega) (by rw [h1]; rfl) (by decide) ?_
    refine j_aload_n (pc' := 75) (z := 0) dX11_count_74 rfl rfl ?_
    refine j_get (pc' := 78) (v := aR 10) dX11_count_75 rfl f_Top_42 (by omega) hO rfl ?_
    refine j_get (pc' := 81) (v := aR (10 + 7)) dX11_count_78 rfl f_Top_182 (by omega) hC.1 rfl ?_
    refine j_iconst (pc' := 82) dX11_count_81 rfl ?_
    refine j_iald (pc' := 83) dX11_count_82 rfl (by omega) hC.2.2.2.2.2.2.2 (by omega) (by decide) ?_
    exact j_iret dX11_count_83 rfl (jC_of (by unfold countA; simp [*]) hT)
  · refine j_tsw (tgt := 84) dX11_count_1 hx1 (by omega) (by rw [h1]; rfl) (by decide) ?_
    refine j_aload_n (pc' := 85) (z := 0) dX11_count_84 rfl rfl ?_
    refine j_get (pc' := 88) (v := aR 10) dX11_count_85 rfl f_Top_42 (by omega) hO rfl ?_
    refine j_get (pc' := 91) (v := aR (10 + 7)) dX11_count_88 rfl f_Top_182 (by omega) hC.1 rfl ?_
    refine j_iconst (pc' := 92) dX11_count_91 rfl ?_
    refine j_iald (pc' := 93) dX11_count_92 rfl (by omega) hC.2.2.2.2.2.2.2 (by omega) (by decide) ?_
    exact j_iret dX11_count_93 rfl (jC_of (by unfold countA; simp [*]) hT)
  · refine j_tsw (tgt := 94) dX11_count_1 hx1 (by omega) (by rw [h1]; rfl) (by decide) ?_
    refine j_aload_n (pc' := 95) (z := 0) dX11_count_94 rfl rfl ?_
    refine j_get (pc' := 98) (v := aR 10) dX11_count_95 rfl f_Top_42 (by omega) hO rfl ?_
    refine j_get (pc' := 101) (v := aR (10 + 7)) dX11_count_98 rfl f_Top_182 (by omega) hC.1 rfl ?_
    refine j_iconst (pc' := 102) dX11_count_101 rfl ?_
    refine j_iald (pc' := 103) dX11_count_102 rfl (by omega) hC.2.2.2.2.2.2.2 (by omega) (by decide) ?_
    exact j_iret dX11_count_103 rfl (jC_of (by unfold countA; simp [*]) hT)
  · refine j_tsw (tgt := 104) dX11_count_1 hx1 (by omega) (by rw [h1]; rfl) (by decide) ?_
    refine j_aload_n (pc' := 105) (z := 0) dX11_count_104 rfl rfl ?_
    refine j_get (pc' := 108) (v := aR 10) dX11_count_105 rfl f_Top_42 (by omega) hO rfl ?_
    refine j_callV (pc' := 111) (as := []) (rest := []) dX11_count_108 rfl s_Top_281 (c_Car_allFigures hC hB hK (by omega)) (by omega) hC.1 rfl rfl rfl rfl (jdet (st' := [aI (figs D n)]) rfl ?_)
    exact j_iret dX11_count_111 rfl (jC_of (by unfold countA; simp [*]) hT)
  · refine j_tsw (tgt := 112) dX11_count_1 hx1 (by omega) (by rw [h1]; rfl) (by decide) ?_
    refine j_aload_n (pc' := 113) (z := 0) dX11_count_112 rfl rfl ?_
    refine j_get (pc' := 116) (v := aR 10) dX11_count_113 rfl f_Top_42 (by omega) hO rfl ?_
    refine j_callV (pc' := 119) (as := []) (rest := []) dX11_count_116 rfl s_Top_310 (c_Car_freeOnes hC hB hK (by omega)) (by omega) hC.1 rfl rfl rfl rfl (jdet (st' := [aI (freS D n)]) rfl ?_)
    exact j_iret dX11_count_119 rfl (jC_of (by unfold countA; simp [*]) hT)
  · refine j_tswd (tgt := 120) dX11_count_1 hx1 h1 (by decide) ?_
    refine j_iconst (pc' := 121) dX11_count_120 rfl ?_
    exact j_iret dX11_count_121 rfl (jC_of (by unfold countA; (repeat' split) <;> first | rfl | omega) hT)
set_option maxRecDepth 100000 in
set_option maxHeartbeats 4000000 in
theorem c_Top_image {l : Launch} {w : AW} {D Di : Int → Int → Int} {n mi hi ni mj : Int} {sh E : Int → Int → Int}  (hW : Comp w D n mi hi Di ni mj sh E) (hB : CarOK D n mi) (hI : CarOK Di ni mj) (hhi : hi = 0 ∨ hi = 1) (hsh : ShOK sh E)  : Call l m_Top_image false 68 68 [aR 0] w (jC w mi D n mi 1 D n mi sh E) := by
  have hT := TS.rf hW
  obtain ⟨hO, hK, hC, ⟨Dt, nt, mt, hCt⟩, hCi, hS34, hSh, ⟨po, hPo⟩, ⟨di, hDi⟩⟩ := hW
  obtain ⟨hn, hD, hs0, hs1, hs2, hs3⟩ := id hB
  refine Call.of (L := [some (aR 0)]) rfl (Nat.le_of_ble_eq_true rfl) rfl (fun G ad => ?_)
  refine j_aload_n (pc' := 1) (z := 0) dX11_image_0 rfl rfl ?_
  refine j_get (pc' := 4) (v := aR 26) dX11_image_1 rfl f_Top_49 (by omega) hO rfl ?_
  refine j_aload_n (pc' := 5) (z := 0) dX11_image_4 rfl rfl ?_
  refine j_get (pc' := 8) (v := aR 10) dX11_image_5 rfl f_Top_42 (by omega) hO rfl ?_
  refine j_callV (pc' := 11) (as := [aR 10]) (rest := []) dX11_image_8 rfl s_Top_84 (c_Car_becomes hCi hC (by omega) (by omega) (by omega)) (by omega) hCi.1 rfl rfl rfl rfl (jdet (st' := []) rfl ?_)
  refine j_aload_n (pc' := 12) (z := 0) dX11_image_11 rfl rfl ?_
  refine j_iconst (pc' := 13) dX11_image_12 rfl ?_
  refine j_put (pc' := 16) dX11_image_13 rfl p_Top_52 (by omega) ((carW_out (by omega)).trans hO) (Nat.le_of_ble_eq_true rfl) ⟨rfl, rfl⟩ ?_
  refine j_w (w' := up (carW w 26 D n mi) 0 (eO 10 [aR 10, aR 18, aR 26, aI 1, aR 1, aR 34, aR 51, aR 52])) rfl ?_
  refine j_aload_n (pc' := 17) (z := 0) dX11_image_16 rfl rfl ?_
  refine j_get (pc' := 20) (v := aR 10) dX11_image_17 rfl f_Top_42 (by omega) up_s rfl ?_
  refine j_get (pc' := 23) (v := aI mi) dX11_image_20 rfl f_Top_307 (by omega) ((up_n (by omega)).trans ((carW_out (by omega)).trans hC.1)) rfl ?_
  exact j_iret dX11_image_23 rfl (jC_of (by rfl) hT.img.flag)
set_option maxRecDepth 100000 in
set_option maxHeartbeats 4000000 in
theorem c_Top_restore {l : Launch} {w : AW} {D Di : Int → Int → Int} {n mi hi ni mj : Int} {sh E : Int → Int → Int}  (hW : Comp w D n mi hi Di ni mj sh E) (hB : CarOK D n mi) (hI : CarOK Di ni mj) (hhi : hi = 0 ∨ hi = 1) (hsh : ShOK sh E)  : Call l m_Top_restore false 68 68 [aR 0] w (jC w (if hi = 0 then -3 else mj) (if hi = 0 then D else Di) (if hi = 0 then n else ni) (if hi = 0 then mi else mj) hi Di ni mj sh E) := by
  have hT := TS.rf hW
  obtain ⟨hO, hK, hC, ⟨Dt, nt, mt, hCt⟩, hCi, hS34, hSh, ⟨po, hPo⟩, ⟨di, hDi⟩⟩ := hW
  obtain ⟨hn, hD, hs0, hs1, hs2, hs3⟩ := id hB
  refine Call.of (L := [some (aR 0)]) rfl (Nat.le_of_ble_eq_true rfl) rfl (fun G ad => ?_)
  refine j_aload_n (pc' := 1) (z := 0) dX11_restore_0 rfl rfl ?_
  refine j_get (pc' := 4) (v := aI hi) dX11_restore_1 rfl f_Top_52 (by omega) hO rfl ?_
  refine j_if_ne (tgt := 10) (pc' := 7) dX11_restore_4 (by decide) rfl (by omega) (fun h4 => ?_) (fun h4 => ?_)
  · refine j_aload_n (pc' := 11) (z := 0) dX11_restore_10 rfl rfl ?_
    refine j_get (pc' := 14) (v := aR 10) dX11_restore_11 rfl f_Top_42 (by omega) hO rfl ?_
    refine j_aload_n (pc' := 15) (z := 0) dX11_restore_14 rfl rfl ?_
    refine j_get (pc' := 18) (v := aR 26) dX11_restore_15 rfl f_Top_49 (by omega) hO rfl ?_
    refine j_callV (pc' := 21) (as := [aR 26]) (rest := []) dX11_restore_18 rfl s_Top_84 (c_Car_becomes hC hCi (by omega) (by omega) (by omega)) (by omega) hC.1 rfl rfl rfl rfl (jdet (st' := []) rfl ?_)
    refine j_aload_n (pc' := 22) (z := 0) dX11_restore_21 rfl rfl ?_
    refine j_get (pc' := 25) (v := aR 10) dX11_restore_22 rfl f_Top_42 (by omega) ((carW_out (by omega)).trans hO) rfl ?_
    refine j_get (pc' := 28) (v := aI mj) dX11_restore_25 rfl f_Top_307 (by omega) CarAt_carW.1 rfl ?_
    exact j_iret dX11_restore_28 rfl (jC_of (by simp [*]) (by rw [if_neg h4, if_neg h4, if_neg h4]; exact hT.car))
  · refine j_bipush (pc' := 9) dX11_restore_7 rfl (by decide) ?_
    exact j_iret dX11_restore_9 rfl (jC_of (by simp [*]) (by rw [if_pos h4, if_pos h4, if_pos h4]; exact hT))
