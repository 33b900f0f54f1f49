def stP (F : Int → Int) (so i : Int) : Bool := decide (F i = least so ∨ (0 ≤ F i ∧ F i ≤ 3))
def stR (sh E : Int → Int → Int) (n d : Int) : Int := if rowR sh d = 0 then (if n < sh 4 d then -13 else if allI (stP (E d) (sh 3 d)) (sh 4 d) = true then 0 else -13) else rowR sh d
theorem stR_bd {sh E : Int → Int → Int} {n d : Int} : -13 ≤ stR sh E n d ∧ stR sh E n d ≤ 0 := by
  have := rowR_bd (sh := sh) (d := d)
  unfold stR; (repeat' split) <;> omega
theorem stR_0 {sh E : Int → Int → Int} {n d : Int} (h : stR sh E n d = 0) : (((0 ≤ d ∧ d ≤ 7) ∧ sh 0 d = 2) ∧ sh 4 d ≤ n) ∧ ∀ p, 0 ≤ p → p < sh 4 d → E d p = least (sh 3 d) ∨ (0 ≤ E d p ∧ E d p ≤ 3) := by
  unfold stR at h
  split at h
  · split at h
    · omega
    · split at h
      · rename_i h1 h2 h3
        refine ⟨⟨rowR_0 h1, by omega⟩, fun p g1 g2 => ?_⟩
        have := allI_iff.mp h3 p g1 g2
        unfold stP at this
        exact of_decide_eq_true this
      · omega
  · omega
theorem allI_no {P : Int → Bool} {n k : Int} (h : 0 ≤ k ∧ k < n) (hp : ¬ P k = true) : ¬ allI P n = true := fun q => hp (allI_iff.mp q k h.1 h.2)
def quH (D : Int → Int → Int) (n p : Int) (x : Int × Int) : Int × Int := if hrd D n 0 p = 0 then (x.1 + 1, (if x.2 = -4 then p else x.2)) else x
def quF (D : Int → Int → Int) (n k : Int) : Int × Int := foldI (quH D n) (0, -4) k
def quietA (D : Int → Int → Int) (n : Int) (sh E : Int → Int → Int) (d what : Int) : Int := if 0 ≤ what ∧ what ≤ 1 then (if stR sh E n d = 0 then (if what = 0 then (quF (tsD D (sh 4 d) (E d) (sh 3 d)) n 100).1 else (quF (tsD D (sh 4 d) (E d) (sh 3 d)) n 100).2) else stR sh E n d) else -1
set_option maxRecDepth 100000 in
set_option maxHeartbeats 4000000 in
theorem c_Top_statesRefusal {l : Launch} {w : AW} {D Di : Int → Int → Int} {n mi hi ni mj : Int} {sh E : Int → Int → Int} {d : Int} (hW : Comp w D n mi hi Di ni mj sh E) (hB : CarOK D n mi) (hsh : ShOK sh E) (hd : inI d) : Call l m_Top_statesRefusal false 68 68 [aR 0, aI d] w (rt (some (aI (stR sh E n d))) w) := by
  have hW0 := hW
  obtain ⟨hO, hK, hC, ⟨Dt, nt, mt, hCt⟩, hCi, hS34, hSh, ⟨po, hPo⟩, ⟨di, hDi⟩⟩ := hW
  obtain ⟨hn, hD, hs0, hs1, hs2, hs3⟩ := id hB
  refine Call.of (L := [some (aR 0), some (aI d), none, none, none]) rfl (Nat.le_of_ble_eq_true rfl) rfl (fun G ad => ?_)
  refine j_aload_n (pc' := 1) (z := 0) dX11_statesRefusal_0 rfl rfl ?_
  refine j_iload_n (pc' := 2) (z := d) dX11_statesRefusal_1 rfl rfl ?_
  refine j_callV (pc' := 5) (as := [aI d]) (rest := []) dX11_statesRefusal_2 rfl s_Top_70 (c_Top_rowRefusal hW0 hsh (by omega)) (by omega) hO rfl rfl rfl rfl (jdet (st' := [aI (rowR sh d)]) rfl ?_)
  refine j_istore_n (pc' := 6) (L' := [some (aR 0), some (aI d), some (aI (rowR sh d)), none, none]) dX11_statesRefusal_5 rfl (by decide) rfl ?_
  refine j_iload_n (pc' := 7) (z := (rowR sh d)) dX11_statesRefusal_6 rfl rfl ?_
  have hrb := rowR_bd (sh := sh) (d := d)
  refine j_if_eq (tgt := 12) (pc' := 10) dX11_statesRefusal_7 (by decide) rfl (by omega) (fun h7 => ?_) (fun h7 => ?_)
  · obtain ⟨hd7, hct⟩ := rowR_0 h7
    obtain ⟨q1, q2, q3, q4, q5, q6⟩ := id (hsh d hd7)
    refine j_aload_n (pc' := 13) (z := 0) dX11_statesRefusal_12 rfl rfl ?_
    refine j_get (pc' := 16) (v := aR 34) dX11_statesRefusal_13 rfl f_Top_58 (by omega) hO rfl ?_
    refine j_iload_n (pc' := 17) (z := d) dX11_statesRefusal_16 rfl rfl ?_
    refine j_aald (pc' := 18) (r := (35 + 2 * (d).toNat)) (Cn := "RattleAtFifty$Shelf") dX11_statesRefusal_17 rfl (by omega) hS34 rfl (by omega) (by decide) rfl ?_
    refine j_astore_n (pc' := 19) (L' := [some (aR 0), some (aI d), some (aI (rowR sh d)), some (aR (35 + 2 * (d).toNat)), none]) dX11_statesRefusal_18 rfl (by decide) rfl ?_
    refine j_aload_n (pc' := 20) (z := (35 + 2 * (d).toNat)) dX11_statesRefusal_19 rfl rfl ?_
    refine j_get (pc' := 23) (v := aI (sh 4 d)) dX11_statesRefusal_20 rfl f_Top_259 (by omega) (hSh d (by omega)).1 rfl ?_
    refine j_aload_n (pc' := 24) (z := 0) dX11_statesRefusal_23 rfl rfl ?_
    refine j_get (pc' := 27) (v := aR 10) dX11_statesRefusal_24 rfl f_Top_42 (by omega) hO rfl ?_
    refine j_get (pc' := 30) (v := aI n) dX11_statesRefusal_27 rfl f_Top_203 (by omega) hC.1 rfl ?_
    refine j_icmp_le (tgt := 36) (pc' := 33) dX11_statesRefusal_30 (by decide) rfl (by omega) (by omega) (fun h30 => ?_) (fun h30 => ?_)
    · refine j_iconst (pc' := 37) dX11_statesRefusal_36 rfl ?_
      refine j_istore (pc' := 39) (L' := [some (aR 0), some (aI d), some (aI (rowR sh d)), some (aR (35 + 2 * (d).toNat)), some (aI 0)]) dX11_statesRefusal_37 rfl (by decide) rfl ?_
      have lp39 : ∀ (k9 : Nat) (i : Int), (0 ≤ i ∧ i ≤ sh 4 d) → (allI (stP (E d) (sh 3 d)) i = true) → ((sh 4 d - i).toNat) = k9 → J l m_Top_statesRefusal ad G [] false (jZ ad G false 68 m_Top_statesRefusal.2.2.2.2.cells m_Top_statesRefusal.2.2.2.2.slots (rt (some (aI (stR sh E n d))) w)) 68 0 0 39 [some (aR 0), some (aI d), some (aI (rowR sh d)), some (aR (35 + 2 * (d).toNat)), some (aI i)] [] w := by
        intro k9
        induction k9 using Nat.strongRecOn with
        | _ k9 ih39 =>
          intro i hi9 ha hk39
          refine j_iload (pc' := 41) (z := i) dX11_statesRefusal_39 rfl rfl ?_
          refine j_aload_n (pc' := 42) (z := (35 + 2 * (d).toNat)) dX11_statesRefusal_41 rfl rfl ?_
          refine j_get (pc' := 45) (v := aI (sh 4 d)) dX11_statesRefusal_42 rfl f_Top_259 (by omega) (hSh d (by omega)).1 rfl ?_
          refine j_icmp_ge (tgt := 81) (pc' := 48) dX11_statesRefusal_45 (by decide) rfl (by omega) (by omega) (fun h45 => ?_) (fun h45 => ?_)
          · refine j_iconst (pc' := 82) dX11_statesRefusal_81 rfl ?_
            exact j_iret dX11_statesRefusal_82 rfl (rt_eq (by unfold stR; rw [if_pos h7, if_neg (by omega), if_pos (by rw [show sh 4 d = i by omega]; exact ha)]))
          · refine j_aload_n (pc' := 49) (z := (35 + 2 * (d).toNat)) dX11_statesRefusal_48 rfl rfl ?_
            refine j_iload (pc' := 51) (z := i) dX11_statesRefusal_49 rfl rfl ?_
            refine j_callV (pc' := 54) (as := [aI i]) (rest := []) dX11_statesRefusal_51 rfl s_Top_293 (c_Shelf_skips (hSh d (by omega)) (hsh d (by omega)) (by omega) (by omega)) (by omega) (hSh d (by omega)).1 rfl rfl rfl rfl (jdet (st' := [aB ((0 ≤ i ∧ i < sh 4 d) ∧ E d i = least (sh 3 d))]) rfl ?_)
            refine j_ifb_ne (tgt := 75) (pc' := 57) dX11_statesRefusal_54 (by decide) rfl (fun h54 => ?_) (fun h54 => ?_)
            · refine j_iinc (pc' := 78) (z := i) (L' := [some (aR 0), some (aI d), some (aI (rowR sh d)), some (aR (35 + 2 * (d).toNat)), some (aI (i + 1))]) dX11_statesRefusal_75 rfl (by decide) rfl rfl rfl ?_
              refine j_goto (pc' := 39) dX11_statesRefusal_78 (by decide) ?_
              exact ih39 _ (by omega) (i + 1) (by omega) (by rw [allI_s (by omega), ha, Bool.true_and]; unfold stP; exact decide_eq_true (by omega)) rfl
            · refine j_aload_n (pc' := 58) (z := (35 + 2 * (d).toNat)) dX11_statesRefusal_57 rfl rfl ?_
              refine j_get (pc' := 61) (v := aR (35 + 2 * (d).toNat + 1)) dX11_statesRefusal_58 rfl f_Top_262 (by omega) (hSh d (by omega)).1 rfl ?_
              refine j_iload (pc' := 63) (z := i) dX11_statesRefusal_61 rfl rfl ?_
              refine j_iald (pc' := 64) dX11_statesRefusal_63 rfl (by omega) (hSh d (by omega)).2 (by omega) (by decide) ?_
              refine j_iconst (pc' := 65) dX11_statesRefusal_64 rfl ?_
              refine j_iconst (pc' := 66) dX11_statesRefusal_65 rfl ?_
              have hEi := q6 i (by omega) (by omega)
              refine j_callS (pc' := 69) (as := [aI (E d i), aI 0, aI 3]) (rest := []) dX11_statesRefusal_66 rfl s_Top_126 (c_within (by omega) (by omega) (by omega)) rfl rfl rfl (jdet (st' := [aB (0 ≤ E d i ∧ E d i ≤ 3)]) rfl ?_)
              refine j_ifb_ne (tgt := 75) (pc' := 72) dX11_statesRefusal_69 (by decide) rfl (fun h69 => ?_) (fun h69 => ?_)
              · refine j_iinc (pc' := 78) (z := i) (L' := [some (aR 0), some (aI d), some (aI (rowR sh d)), some (aR (35 + 2 * (d).toNat)), some (aI (i + 1))]) dX11_statesRefusal_75 rfl (by decide) rfl rfl rfl ?_
                refine j_goto (pc' := 39) dX11_statesRefusal_78 (by decide) ?_
                exact ih39 _ (by omega) (i + 1) (by omega) (by rw [allI_s (by omega), ha, Bool.true_and]; unfold stP; exact decide_eq_true (by omega)) rfl
              · refine j_bipush (pc' := 74) dX11_statesRefusal_72 rfl (by decide) ?_
                exact j_iret dX11_statesRefusal_74 rfl (rt_eq (by unfold stR; rw [if_pos h7, if_neg (by omega), if_neg (allI_no (k := i) (by omega) (by unfold stP; rw [decide_eq_true_iff]; omega))]))
      exact lp39 _ 0 (by omega) (by rfl) rfl
    · refine j_bipush (pc' := 35) dX11_statesRefusal_33 rfl (by decide) ?_
      exact j_iret dX11_statesRefusal_35 rfl (rt_eq (by unfold stR; rw [if_pos h7, if_pos (by omega)]))
  · refine j_iload_n (pc' := 11) (z := (rowR sh d)) dX11_statesRefusal_10 rfl rfl ?_
    exact j_iret dX11_statesRefusal_11 rfl (rt_eq (by unfold stR; rw [if_neg h7]))
set_option maxRecDepth 100000 in
set_option maxHeartbeats 4000000 in
theorem c_Top_quiet {l : Launch} {w : AW} {D Di : Int → Int → Int} {n mi hi ni mj : Int} {sh E : Int → Int → Int} {d x : Int} (hW : Comp w D n mi hi Di ni mj sh E) (hB : CarOK D n mi) (hI : CarOK Di ni mj) (hhi : hi = 0 ∨ hi = 1) (hsh : ShOK sh E) (hd : inI d) (hx : inI x) : Call l m_Top_quiet false 68 68 [aR 0, aI d, aI x] w (jC w (quietA D n sh E d x) D n mi hi Di ni mj sh E) := by
  have hT := TS.rf hW
  obtain ⟨hO, hK, hC, ⟨Dt, nt, mt, hCt⟩, hCi, hS34, hSh, ⟨po, hPo⟩, ⟨di, hDi⟩⟩ := hW
  obtain ⟨hn, hD, hs0, hs1, hs2, hs3⟩ := id hB
  refine Call.of (L := [some (aR 0), some (aI d), some (aI x), none, none, none, none]) rfl (Nat.le_of_ble_eq_true rfl) rfl (fun G ad => ?_)
  refine j_iload_n (pc' := 1) (z := x) dX11_quiet_0 rfl rfl ?_
  refine j_callS (pc' := 4) (as := [aI x]) (rest := []) dX11_quiet_1 rfl s_Top_173 (c_isEither (by omega)) rfl rfl rfl (jdet (st' := [aB (0 ≤ x ∧ x ≤ 1)]) rfl ?_)
  refine j_ifb_eq (tgt := 15) (pc' := 7) dX11_quiet_4 (by decide) rfl (fun h4 => ?_) (fun h4 => ?_)
  · refine j_iconst (pc' := 16) dX11_quiet_15 rfl ?_
    refine j_istore_n (pc' := 17) (L' := [some (aR 0), some (aI d), some (aI x), some (aI (-1)), none, none, none]) dX11_quiet_16 rfl (by decide) rfl ?_
    refine j_iload_n (pc' := 18) (z := (-1)) dX11_quiet_17 rfl rfl ?_
    have hrb := stR_bd (sh := sh) (E := E) (n := n) (d := d)
    refine j_if_eq (tgt := 23) (pc' := 21) dX11_quiet_18 (by decide) rfl (by omega) (fun h18 => ?_) (fun h18 => ?_)
    · exact absurd h18 (by omega)
    · refine j_iload_n (pc' := 22) (z := (-1)) dX11_quiet_21 rfl rfl ?_
      exact j_iret dX11_quiet_22 rfl (jC_of (by unfold quietA; (repeat' split) <;> first | rfl | omega) hT)
  · refine j_aload_n (pc' := 8) (z := 0) dX11_quiet_7 rfl rfl ?_
    refine j_iload_n (pc' := 9) (z := d) dX11_quiet_8 rfl rfl ?_
    refine j_callV (pc' := 12) (as := [aI d]) (rest := []) dX11_quiet_9 rfl s_Top_286 (c_Top_statesRefusal hT.1 hB hsh (by omega)) (by omega) hO rfl rfl rfl rfl (jdet (st' := [aI (stR sh E n d)]) rfl ?_)
    refine j_goto (pc' := 16) dX11_quiet_12 (by decide) ?_
    refine j_istore_n (pc' := 17) (L' := [some (aR 0), some (aI d), some (aI x), some (aI (stR sh E n d)), none, none, none]) dX11_quiet_16 rfl (by decide) rfl ?_
    refine j_iload_n (pc' := 18) (z := (stR sh E n d)) dX11_quiet_17 rfl rfl ?_
    have hrb := stR_bd (sh := sh) (E := E) (n := n) (d := d)
    refine j_if_eq (tgt := 23) (pc' := 21) dX11_quiet_18 (by decide) rfl (by omega) (fun h18 => ?_) (fun h18 => ?_)
    · obtain ⟨⟨⟨hd7, hct⟩, hszn⟩, hst⟩ := stR_0 h18
      have hXB := hB.ts hst
      refine j_aload_n (pc' := 24) (z := 0) dX11_quiet_23 rfl rfl ?_
      refine j_get (pc' := 27) (v := aR 18) dX11_quiet_24 rfl f_Top_46 (by omega) hO rfl ?_
      refine j_aload_n (pc' := 28) (z := 0) dX11_quiet_27 rfl rfl ?_
      refine j_get (pc' := 31) (v := aR 10) dX11_quiet_28 rfl f_Top_42 (by omega) hO rfl ?_
      refine j_callV (pc' := 34) (as := [aR 10]) (rest := []) dX11_quiet_31 rfl s_Top_84 (c_Car_becomes hCt hC (by omega) (by omega) (by omega)) (by omega) hCt.1 rfl rfl rfl rfl (jdet (st' := []) rfl ?_)
      refine j_aload_n (pc' := 35) (z := 0) dX11_quiet_34 rfl rfl ?_
      refine j_get (pc' := 38) (v := aR 18) dX11_quiet_35 rfl f_Top_46 (by omega) ((carW_out (by omega)).trans hO) rfl ?_
      refine j_aload_n (pc' := 39) (z := 0) dX11_quiet_38 rfl rfl ?_
      refine j_get (pc' := 42) (v := aR 34) dX11_quiet_39 rfl f_Top_58 (by omega) ((carW_out (by omega)).trans hO) rfl ?_
      refine j_iload_n (pc' := 43) (z := d) dX11_quiet_42 rfl rfl ?_
      refine j_aald (pc' := 44) (r := (35 + 2 * (d).toNat)) (Cn := "RattleAtFifty$Shelf") dX11_quiet_43 rfl (by omega) ((carW_out (by omega)).trans hS34) rfl (by omega) (by decide) rfl ?_
      refine j_callV (pc' := 47) (as := [aR (35 + 2 * (d).toNat)]) (rest := []) dX11_quiet_44 rfl s_Top_289 (c_Car_takeStates CarAt_carW hB (carW_kinds hK (by omega)) (by omega) (carW_shelf (hSh d (by omega)) (by omega)) (hsh d (by omega)) (by omega) hszn) (by omega) CarAt_carW.1 rfl rfl rfl rfl (jdet (st' := []) rfl ?_)
      refine j_w (w' := carW w 18 (tsD D (sh 4 d) (E d) (sh 3 d)) n mi) carW_carW ?_
      refine j_iconst (pc' := 48) dX11_quiet_47 rfl ?_
      refine j_istore (pc' := 50) (L' := [some (aR 0), some (aI d), some (aI x), some (aI (stR sh E n d)), some (aI 0), none, none]) dX11_quiet_48 rfl (by decide) rfl ?_
      refine j_bipush (pc' := 52) dX11_quiet_50 rfl (by decide) ?_
      refine j_istore (pc' := 54) (L' := [some (aR 0), some (aI d), some (aI x), some (aI (stR sh E n d)), some (aI 0), some (aI (-4)), none]) dX11_quiet_52 rfl (by decide) rfl ?_
      refine j_iconst (pc' := 55) dX11_quiet_54 rfl ?_
      refine j_istore (pc' := 57) (L' := [some (aR 0), some (aI d), some (aI x), some (aI (stR sh E n d)), some (aI 0), some (aI (-4)), some (aI 0)]) dX11_quiet_55 rfl (by decide) rfl ?_
      have lp57 : ∀ (k9 : Nat) (v : Int) (f : Int) (i : Int), (0 ≤ i ∧ i ≤ 100) → ((v, f) = quF (tsD D (sh 4 d) (E d) (sh 3 d)) n i) → ((0 ≤ v ∧ v ≤ i) ∧ -4 ≤ f ∧ f ≤ 100) → ((100 - i).toNat) = k9 → J l m_Top_quiet ad G [] false (jZ ad G false 68 m_Top_quiet.2.2.2.2.cells m_Top_quiet.2.2.2.2.slots (jC w (quietA D n sh E d x) D n mi hi Di ni mj sh E)) 68 0 0 57 [some (aR 0), some (aI d), some (aI x), some (aI (stR sh E n d)), some (aI v), some (aI f), some (aI i)] [] (carW w 18 (tsD D (sh 4 d) (E d) (sh 3 d)) n mi) := by
        intro k9
        induction k9 using Nat.strongRecOn with
        | _ k9 ih57 =>
          intro v f i hi9 hv hvb hk57
          refine j_iload (pc' := 59) (z := i) dX11_quiet_57 rfl rfl ?_
          refine j_bipush (pc' := 61) dX11_quiet_59 rfl (by decide) ?_
          refine j_icmp_ge (tgt := 102) (pc' := 64) dX11_quiet_61 (by decide) rfl (by omega) (by omega) (fun h61 => ?_) (fun h61 => ?_)
          · refine j_iload_n (pc' := 103) (z := x) dX11_quiet_102 rfl rfl ?_
            refine j_if_ne (tgt := 111) (pc' := 106) dX11_quiet_103 (by decide) rfl (by omega) (fun h103 => ?_) (fun h103 => ?_)
            · refine j_iload (pc' := 113) (z := f) dX11_quiet_111 rfl rfl ?_
              exact j_iret dX11_quiet_113 rfl (jC_of (by have hz : quF (tsD D (sh 4 d) (E d) (sh 3 d)) n 100 = (v, f) := (by rw [hv, show i = 100 by omega]); unfold quietA; rw [if_pos (by omega), if_pos h18, hz]; dsimp only; (repeat' split) <;> first | rfl | omega) hT.trial)
            · refine j_iload (pc' := 108) (z := v) dX11_quiet_106 rfl rfl ?_
              refine j_goto (pc' := 113) dX11_quiet_108 (by decide) ?_
              exact j_iret dX11_quiet_113 rfl (jC_of (by have hz : quF (tsD D (sh 4 d) (E d) (sh 3 d)) n 100 = (v, f) := (by rw [hv, show i = 100 by omega]); unfold quietA; rw [if_pos (by omega), if_pos h18, hz]; dsimp only; (repeat' split) <;> first | rfl | omega) hT.trial)
          · refine j_aload_n (pc' := 65) (z := 0) dX11_quiet_64 rfl rfl ?_
            refine j_get (pc' := 68) (v := aR 18) dX11_quiet_65 rfl f_Top_46 (by omega) ((carW_out (by omega)).trans hO) rfl ?_
            refine j_iconst (pc' := 69) dX11_quiet_68 rfl ?_
            refine j_iload (pc' := 71) (z := i) dX11_quiet_69 rfl rfl ?_
            refine j_callV (pc' := 74) (as := [aI 0, aI i]) (rest := []) dX11_quiet_71 rfl s_Top_167 (c_Car_heardAt CarAt_carW hXB (carW_kinds hK (by omega)) (by omega) (by omega) (by omega)) (by omega) CarAt_carW.1 rfl rfl rfl rfl (jdet (st' := [aI (hrd (tsD D (sh 4 d) (E d) (sh 3 d)) n 0 i)]) rfl ?_)
            have hhb := hrd_bd (seat := 0) (pace := i) hXB
            refine j_if_ne (tgt := 96) (pc' := 77) dX11_quiet_74 (by decide) rfl (by omega) (fun h74 => ?_) (fun h74 => ?_)
            · refine j_iinc (pc' := 99) (z := i) (L' := [some (aR 0), some (aI d), some (aI x), some (aI (stR sh E n d)), some (aI v), some (aI f), some (aI (i + 1))]) dX11_quiet_96 rfl (by decide) rfl rfl rfl ?_
              refine j_goto (pc' := 57) dX11_quiet_99 (by decide) ?_
              exact ih57 _ (by omega) v f (i + 1) (by omega) (by unfold quF at hv ⊢; rw [foldI_s (by omega), ← hv]; unfold quH; first | (rw [if_pos (by omega)]; dsimp only; first | rw [if_pos (by omega)] | rw [if_neg (by omega)]) | rw [if_neg (by omega)]) (by omega) rfl
            · refine j_iinc (pc' := 80) (z := v) (L' := [some (aR 0), some (aI d), some (aI x), some (aI (stR sh E n d)), some (aI (v + 1)), some (aI f), some (aI i)]) dX11_quiet_77 rfl (by decide) rfl rfl rfl ?_
              refine j_iload (pc' := 82) (z := f) dX11_quiet_80 rfl rfl ?_
              refine j_bipush (pc' := 84) dX11_quiet_82 rfl (by decide) ?_
              refine j_icmp_ne (tgt := 92) (pc' := 87) dX11_quiet_84 (by decide) rfl (by omega) (by omega) (fun h84 => ?_) (fun h84 => ?_)
              · refine j_iload (pc' := 94) (z := f) dX11_quiet_92 rfl rfl ?_
                refine j_istore (pc' := 96) (L' := [some (aR 0), some (aI d), some (aI x), some (aI (stR sh E n d)), some (aI (v + 1)), some (aI f), some (aI i)]) dX11_quiet_94 rfl (by decide) rfl ?_
                refine j_iinc (pc' := 99) (z := i) (L' := [some (aR 0), some (aI d), some (aI x), some (aI (stR sh E n d)), some (aI (v + 1)), some (aI f), some (aI (i + 1))]) dX11_quiet_96 rfl (by decide) rfl rfl rfl ?_
                refine j_goto (pc' := 57) dX11_quiet_99 (by decide) ?_
                exact ih57 _ (by omega) (v + 1) f (i + 1) (by omega) (by unfold quF at hv ⊢; rw [foldI_s (by omega), ← hv]; unfold quH; first | (rw [if_pos (by omega)]; dsimp only; first | rw [if_pos (by omega)] | rw [if_neg (by omega)]) | rw [if_neg (by omega)]) (by omega) rfl
              · refine j_iload (pc' := 89) (z := i) dX11_quiet_87 rfl rfl ?_
                refine j_goto (pc' := 94) dX11_quiet_89 (by decide) ?_
                refine j_istore (pc' := 96) (L' := [some (aR 0), some (aI d), some (aI x), some (aI (stR sh E n d)), some (aI (v + 1)), some (aI i), some (aI i)]) dX11_quiet_94 rfl (by decide) rfl ?_
                refine j_iinc (pc' := 99) (z := i) (L' := [some (aR 0), some (aI d), some (aI x), some (aI (stR sh E n d)), some (aI (v + 1)), some (aI i), some (aI (i + 1))]) dX11_quiet_96 rfl (by decide) rfl rfl rfl ?_
                refine j_goto (pc' := 57) dX11_quiet_99 (by decide) ?_
                exact ih57 _ (by omega) (v + 1) i (i + 1) (by omega) (by unfold quF at hv ⊢; rw [foldI_s (by omega), ← hv]; unfold quH; first | (rw [if_pos (by omega)]; dsimp only; first | rw [if_pos (by omega)] | rw [if_neg (by omega)]) | rw [if_neg (by omega)]) (by omega) rfl
      exact lp57 _ 0 (-4) 0 (by omega) (by rfl) (by omega) rfl
    · refine j_iload_n (pc' := 22) (z := (stR sh E n d)) dX11_quiet_21 rfl rfl ?_
      exact j_iret dX11_quiet_22 rfl (jC_of (by unfold quietA; (repeat' split) <;> first | rfl | omega) hT)
def lcg (v : Int) : Int := v * 1103515245 + 12345
def drw (v : Int) : Int := v % 2147483648 / 65536
theorem drw_bd {v : Int} : 0 ≤ drw v ∧ drw v ≤ 32767 := by unfold drw; omega
abbrev WS : Type := Int × Int × Int × (Int → Int → Int)
def wnD (X : Int → Int → Int) (z : Int) : Int → Int → Int := upD (upD X 6 0 (drw (lcg z) % 100)) 6 1 (drw (lcg (lcg z)) % 10)
def wn1 (n : Int) (x : WS) : WS := (lcg (lcg x.1), x.2.1 + (if 0 < hrd (wnD x.2.2.2 x.1) n 0 (wnD x.2.2.2 x.1 6 0) then 1 else 0), x.2.2.1 + hrd (wnD x.2.2.2 x.1) n 0 (wnD x.2.2.2 x.1 6 0), endD (wnD x.2.2.2 x.1) n)
def wnH (D : Int → Int → Int) (n i : Int) (x : WS) : WS := if i % 10 = 0 then wn1 n (x.1, x.2.1, x.2.2.1, D) else wn1 n x
def wnF (D : Int → Int → Int) (n z k : Int) : WS := foldI (wnH D n) (z, 0, 0, D) k
def winA (D : Int → Int → Int) (n m z what : Int) : Int := if (1 ≤ m ∧ m ≤ 20) ∧ (0 ≤ what ∧ what ≤ 1) then (if what = 0 then (wnF D n z (m * 10)).2.1 else (wnF D n z (m * 10)).2.2.1) else -1
theorem wnD_ok {X : Int → Int → Int} {n mi z : Int} (h : CarOK X n mi) : CarOK (wnD X z) n mi := by
  have h1 := drw_bd (v := lcg z)
  have h2 := drw_bd (v := lcg (lcg z))
  exact (h.ch (by omega) (by have : mos 0 = 99 := rfl; omega)).ch (by omega) (by have : mos 1 = 9 := rfl; omega)
theorem wnD_wd {X : Int → Int → Int} {z : Int} (h : WdOK X) : WdOK (wnD X z) := h.ch.ch
