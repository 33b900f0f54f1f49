def pairsR (sh E : Int → Int → Int) (d : Int) : Int := if rowR sh d = 0 then (if pairsB (E d) (sh 4 d) = true then 0 else -13) else rowR sh d
theorem pairsR_bd {sh E : Int → Int → Int} {d : Int} : -13 ≤ pairsR sh E d ∧ pairsR sh E d ≤ 0 := by
  have := rowR_bd (sh := sh) (d := d)
  unfold pairsR; (repeat' split) <;> omega
theorem pairsR_0 {sh E : Int → Int → Int} {d : Int} (h : pairsR sh E d = 0) : ((0 ≤ d ∧ d ≤ 7) ∧ sh 0 d = 2) ∧ pairsB (E d) (sh 4 d) = true := by
  unfold pairsR at h
  split at h
  · split at h
    · exact ⟨rowR_0 (by assumption), by assumption⟩
    · omega
  · omega
def susP (D : Int → Int → Int) (n : Int) (E : Int → Int) (sz : Int) (p : Int) : Bool := toldB D n E sz (2 ^ p.toNat)
def susS (D : Int → Int → Int) (n : Int) (E : Int → Int) (sz : Int) : Int := bset (susP D n E sz) n
def whichA (D : Int → Int → Int) (n : Int) (sh E : Int → Int → Int) (d what : Int) : Int := if 0 ≤ what ∧ what ≤ 1 then (if pairsR sh E d = 0 then (if what = 0 then susS D n (E d) (sh 4 d) else pop (susS D n (E d) (sh 4 d))) else pairsR sh E d) else -1
set_option maxRecDepth 100000 in
set_option maxHeartbeats 4000000 in
theorem c_Top_pairsRefusal {l : Launch} {w : AW} {D Di : Int → Int → Int} {n mi hi ni mj : Int} {sh E : Int → Int → Int} {d : Int} (hW : Comp w D n mi hi Di ni mj sh E) (hsh : ShOK sh E) (hd : inI d) : Call l m_Top_pairsRefusal false 68 68 [aR 0, aI d] w (rt (some (aI (pairsR sh E d))) w) := by
  obtain ⟨hO, hK, hC, ⟨Dt, nt, mt, hCt⟩, hCi, hS34, hSh, ⟨po, hPo⟩, ⟨di, hDi⟩⟩ := hW
  refine Call.of (L := [some (aR 0), some (aI d), none]) rfl (Nat.le_of_ble_eq_true rfl) rfl (fun G ad => ?_)
  refine j_aload_n (pc' := 1) (z := 0) dX11_pairsRefusal_0 rfl rfl ?_
  refine j_iload_n (pc' := 2) (z := d) dX11_pairsRefusal_1 rfl rfl ?_
  refine j_callV (pc' := 5) (as := [aI d]) (rest := []) dX11_pairsRefusal_2 rfl s_Top_70 (c_Top_rowRefusal ⟨hO, hK, hC, ⟨Dt, nt, mt, hCt⟩, hCi, hS34, hSh, ⟨po, hPo⟩, ⟨di, hDi⟩⟩ hsh (by omega)) (by omega) hO rfl rfl rfl rfl (jdet (st' := [aI (rowR sh d)]) rfl ?_)
  refine j_istore_n (pc' := 6) (L' := [some (aR 0), some (aI d), some (aI (rowR sh d))]) dX11_pairsRefusal_5 rfl (by decide) rfl ?_
  refine j_iload_n (pc' := 7) (z := (rowR sh d)) dX11_pairsRefusal_6 rfl rfl ?_
  have hrb := rowR_bd (sh := sh) (d := d)
  refine j_if_eq (tgt := 12) (pc' := 10) dX11_pairsRefusal_7 (by decide) rfl (by omega) (fun h7 => ?_) (fun h7 => ?_)
  · obtain ⟨hd7, hct⟩ := rowR_0 h7
    refine j_aload_n (pc' := 13) (z := 0) dX11_pairsRefusal_12 rfl rfl ?_
    refine j_get (pc' := 16) (v := aR 34) dX11_pairsRefusal_13 rfl f_Top_58 (by omega) hO rfl ?_
    refine j_iload_n (pc' := 17) (z := d) dX11_pairsRefusal_16 rfl rfl ?_
    refine j_aald (pc' := 18) (r := (35 + 2 * (d).toNat)) (Cn := "RattleAtFifty$Shelf") dX11_pairsRefusal_17 rfl (by omega) hS34 rfl (by omega) (by decide) rfl ?_
    refine j_callV (pc' := 21) (as := []) (rest := []) dX11_pairsRefusal_18 rfl s_Top_255 (c_Shelf_isOfPairs (hSh d (by omega)) (hsh d (by omega)) (by omega)) (by omega) (hSh d (by omega)).1 rfl rfl rfl rfl (jdet (st' := [aB (pairsB (E d) (sh 4 d) = true)]) rfl ?_)
    refine j_ifb_eq (tgt := 28) (pc' := 24) dX11_pairsRefusal_21 (by decide) rfl (fun h21 => ?_) (fun h21 => ?_)
    · refine j_bipush (pc' := 30) dX11_pairsRefusal_28 rfl (by decide) ?_
      exact j_iret dX11_pairsRefusal_30 rfl (rt_eq (by unfold pairsR; (repeat' split) <;> first | rfl | omega))
    · refine j_iconst (pc' := 25) dX11_pairsRefusal_24 rfl ?_
      refine j_goto (pc' := 30) dX11_pairsRefusal_25 (by decide) ?_
      exact j_iret dX11_pairsRefusal_30 rfl (rt_eq (by unfold pairsR; (repeat' split) <;> first | rfl | omega))
  · refine j_iload_n (pc' := 11) (z := (rowR sh d)) dX11_pairsRefusal_10 rfl rfl ?_
    exact j_iret dX11_pairsRefusal_11 rfl (rt_eq (by unfold pairsR; (repeat' split) <;> first | rfl | omega))
set_option maxRecDepth 100000 in
set_option maxHeartbeats 4000000 in
theorem c_Top_suspectsBy {l : Launch} {w : AW} {D Di : Int → Int → Int} {n mi hi ni mj : Int} {sh E : Int → Int → Int} {d : Int} (hW : Comp w D n mi hi Di ni mj sh E) (hB : CarOK D n mi) (hsh : ShOK sh E) (hd7 : 0 ≤ d ∧ d ≤ 7) (hpr : pairsB (E d) (sh 4 d) = true) : Call l m_Top_suspectsBy false 68 68 [aR 0, aR (35 + 2 * (d).toNat)] w (rt (some (aI (susS D n (E d) (sh 4 d)))) w) := by
  obtain ⟨hO, hK, hC, ⟨Dt, nt, mt, hCt⟩, hCi, hS34, hSh, ⟨po, hPo⟩, ⟨di, hDi⟩⟩ := hW
  obtain ⟨hn, hD, hs0, hs1, hs2, hs3⟩ := id hB
  refine Call.of (L := [some (aR 0), some (aR (35 + 2 * (d).toNat)), none, none]) rfl (Nat.le_of_ble_eq_true rfl) rfl (fun G ad => ?_)
  refine j_iconst (pc' := 1) dX11_suspectsBy_0 rfl ?_
  refine j_istore_n (pc' := 2) (L' := [some (aR 0), some (aR (35 + 2 * (d).toNat)), some (aI 0), none]) dX11_suspectsBy_1 rfl (by decide) rfl ?_
  refine j_iconst (pc' := 3) dX11_suspectsBy_2 rfl ?_
  refine j_istore_n (pc' := 4) (L' := [some (aR 0), some (aR (35 + 2 * (d).toNat)), some (aI 0), some (aI 0)]) dX11_suspectsBy_3 rfl (by decide) rfl ?_
  have lp4 : ∀ (k9 : Nat) (v : Int) (i : Int), (0 ≤ i ∧ i ≤ n) → (v = bset (susP D n (E d) (sh 4 d)) i) → (0 ≤ v ∧ v ≤ 127) → ((n - i).toNat) = k9 → J l m_Top_suspectsBy ad G [] false (jZ ad G false 68 m_Top_suspectsBy.2.2.2.2.cells m_Top_suspectsBy.2.2.2.2.slots (rt (some (aI (susS D n (E d) (sh 4 d)))) w)) 68 0 0 4 [some (aR 0), some (aR (35 + 2 * (d).toNat)), some (aI v), some (aI i)] [] w := by
    intro k9
    induction k9 using Nat.strongRecOn with
    | _ k9 ih4 =>
      intro v i hi hv hvb hk4
      refine j_iload_n (pc' := 5) (z := i) dX11_suspectsBy_4 rfl rfl ?_
      refine j_aload_n (pc' := 6) (z := 0) dX11_suspectsBy_5 rfl rfl ?_
      refine j_get (pc' := 9) (v := aR 10) dX11_suspectsBy_6 rfl f_Top_42 (by omega) hO rfl ?_
      refine j_get (pc' := 12) (v := aI n) dX11_suspectsBy_9 rfl f_Top_203 (by omega) hC.1 rfl ?_
      refine j_icmp_ge (tgt := 41) (pc' := 15) dX11_suspectsBy_12 (by decide) rfl (by omega) (by omega) (fun h12 => ?_) (fun h12 => ?_)
      · refine j_iload_n (pc' := 42) (z := v) dX11_suspectsBy_41 rfl rfl ?_
        exact j_iret dX11_suspectsBy_42 rfl (rt_eq (by rw [hv, show i = n by omega]; rfl))
      · have hpw := pow7 (n := i) (by omega)
        have hpx := two_pos (Int.toNat i)
        have hp6 : (2 : Int) ^ (Int.toNat i) ≤ 64 := by have := pow7 (n := i + 1) (by omega); rw [show (i + 1).toNat = i.toNat + 1 by omega, Int.pow_succ] at this; omega
        refine j_aload_n (pc' := 16) (z := 0) dX11_suspectsBy_15 rfl rfl ?_
        refine j_get (pc' := 19) (v := aR 10) dX11_suspectsBy_16 rfl f_Top_42 (by omega) hO rfl ?_
        refine j_aload_n (pc' := 20) (z := (35 + 2 * (d).toNat)) dX11_suspectsBy_19 rfl rfl ?_
        refine j_iconst (pc' := 21) dX11_suspectsBy_20 rfl ?_
        refine j_iload_n (pc' := 22) (z := i) dX11_suspectsBy_21 rfl rfl ?_
        refine j_ishl1 (pc' := 23) dX11_suspectsBy_22 rfl (by omega) ?_
        refine j_callV (pc' := 26) (as := [aR (35 + 2 * (d).toNat), aI (2 ^ (Int.toNat i))]) (rest := []) dX11_suspectsBy_23 rfl s_Top_206 (c_Car_doesJust hC hB hK (by omega) (hSh d (by omega)) (hsh d (by omega)) (by omega) (by omega) hpr) (by omega) hC.1 rfl rfl rfl rfl (jdet (st' := [aB (toldB D n (E d) (sh 4 d) (2 ^ (Int.toNat i)) = true)]) rfl ?_)
        refine j_ifb_eq (tgt := 35) (pc' := 29) dX11_suspectsBy_26 (by decide) rfl (fun h26 => ?_) (fun h26 => ?_)
        · refine j_iinc (pc' := 38) (z := i) (L' := [some (aR 0), some (aR (35 + 2 * (d).toNat)), some (aI v), some (aI (i + 1))]) dX11_suspectsBy_35 rfl (by decide) rfl rfl rfl ?_
          refine j_goto (pc' := 4) dX11_suspectsBy_38 (by decide) ?_
          exact ih4 _ (by omega) v (i + 1) (by omega) (by rw [hv, bset_s (by omega), if_neg (by unfold susP; exact h26)]; omega) (by omega) rfl
        · refine j_iload_n (pc' := 30) (z := v) dX11_suspectsBy_29 rfl rfl ?_
          refine j_iconst (pc' := 31) dX11_suspectsBy_30 rfl ?_
          refine j_iload_n (pc' := 32) (z := i) dX11_suspectsBy_31 rfl rfl ?_
          refine j_ishl1 (pc' := 33) dX11_suspectsBy_32 rfl (by omega) ?_
          refine j_ior (pc' := 34) (a := v) (b := 2 ^ (Int.toNat i)) dX11_suspectsBy_33 rfl (by omega) (by omega) ?_
          refine j_istore_n (pc' := 35) (L' := [some (aR 0), some (aR (35 + 2 * (d).toNat)), some (aI (orI v (2 ^ (Int.toNat i)))), some (aI i)]) dX11_suspectsBy_34 rfl (by decide) rfl ?_
          refine j_iinc (pc' := 38) (z := i) (L' := [some (aR 0), some (aR (35 + 2 * (d).toNat)), some (aI (orI v (2 ^ (Int.toNat i)))), some (aI (i + 1))]) dX11_suspectsBy_35 rfl (by decide) rfl rfl rfl ?_
          refine j_goto (pc' := 4) dX11_suspectsBy_38 (by decide) ?_
          exact ih4 _ (by omega) (orI v (2 ^ (Int.toNat i))) (i + 1) (by omega) (by rw [hv]; exact bset_or (by omega) (by unfold susP; rw [if_pos h26])) (by rw [hv, bset_or (P := susP D n (E d) (sh 4 d)) (by omega) (by unfold susP; rw [if_pos h26])]; exact bset_127 (by omega)) rfl
  exact lp4 _ 0 0 (by omega) (by rfl) (by omega) rfl
set_option maxRecDepth 100000 in
set_option maxHeartbeats 4000000 in
theorem jk_Top_cost_35 {l : Launch} {ad : Nat → Nat} {G : JG} {X : List (Nat × Nat × (Int → Int))} {Z : JZ} {L : List (Option AV)} {rest : List AV} {w : AW} {k f : Int} (hK : KindsAt w) (hk : 0 ≤ k ∧ k ≤ 7)  (hcat : (rest.map jcat).sum ≤ 8) (kont : J l m_Top_cost ad G X false Z 68 0 0 38 L (aI (price k f) :: rest) w) : J l m_Top_cost ad G X false Z 68 0 0 35 L (aI f :: aR (2 + k.toNat) :: rest) w := by
  obtain ⟨kk, t0, t1, t2, t3, t4, t5, t6, t7⟩ := hK
  rcases (show k = 0 ∨ k = 1 ∨ k = 2 ∨ k = 3 ∨ k = 4 ∨ k = 5 ∨ k = 6 ∨ k = 7 by omega) with rfl | rfl | rfl | rfl | rfl | rfl | rfl | rfl
  · refine j_callO (pc' := 38) (q := 2) (as := [aI f]) (rest := rest) (Mx := m_Part_price) dX11_cost_35 rfl s_Top_360_Part s_Top_360_Part c_Part_price (by decide) t0 rfl rfl rfl (by have h9 : decide ((rest.map jcat).sum ≤ 8) = true := decide_eq_true hcat; simp only [rmB, h9]; rfl) (jdet rfl ?_)
    exact j_top (by simp [price]) kont
  · refine j_callO (pc' := 38) (q := 3) (as := [aI f]) (rest := rest) (Mx := m_Part_price) dX11_cost_35 rfl s_Top_360_Loose s_Top_360_Part (c_Loose_price (by decide) t1 rfl) (by decide) t1 rfl rfl rfl (by have h9 : decide ((rest.map jcat).sum ≤ 8) = true := decide_eq_true hcat; simp only [rmB, h9]; rfl) (jdet rfl ?_)
    exact j_top (by simp [price]) kont
  · refine j_callO (pc' := 38) (q := 4) (as := [aI f]) (rest := rest) (Mx := m_Part_price) dX11_cost_35 rfl s_Top_360_Tinny s_Top_360_Part (c_Tinny_price (by decide) t2 rfl) (by decide) t2 rfl rfl rfl (by have h9 : decide ((rest.map jcat).sum ≤ 8) = true := decide_eq_true hcat; simp only [rmB, h9]; rfl) (jdet rfl ?_)
    exact j_top (by simp [price]) kont
  · refine j_callO (pc' := 38) (q := 5) (as := [aI f]) (rest := rest) (Mx := m_Part_price) dX11_cost_35 rfl s_Top_360_Frosty s_Top_360_Part (c_Frosty_price (by decide) t3 rfl) (by decide) t3 rfl rfl rfl (by have h9 : decide ((rest.map jcat).sum ≤ 8) = true := decide_eq_true hcat; simp only [rmB, h9]; rfl) (jdet rfl ?_)
    exact j_top (by simp [price]) kont
  · refine j_callO (pc' := 38) (q := 6) (as := [aI f]) (rest := rest) (Mx := m_Part_price) dX11_cost_35 rfl s_Top_360_Heavy s_Top_360_Part (c_Heavy_price (by decide) t4 rfl) (by decide) t4 rfl rfl rfl (by have h9 : decide ((rest.map jcat).sum ≤ 8) = true := decide_eq_true hcat; simp only [rmB, h9]; rfl) (jdet rfl ?_)
    exact j_top (by simp [price]) kont
  · refine j_callO (pc' := 38) (q := 7) (as := [aI f]) (rest := rest) (Mx := m_Part_price) dX11_cost_35 rfl s_Top_360_Doubled s_Top_360_Part (c_Doubled_price (by decide) t5 rfl) (by decide) t5 rfl rfl rfl (by have h9 : decide ((rest.map jcat).sum ≤ 8) = true := decide_eq_true hcat; simp only [rmB, h9]; rfl) (jdet rfl ?_)
    exact j_top (by simp [price]) kont
  · refine j_callO (pc' := 38) (q := 8) (as := [aI f]) (rest := rest) (Mx := m_Part_price) dX11_cost_35 rfl s_Top_360_Dead s_Top_360_Part (c_Dead_price (by decide) t6 rfl) (by decide) t6 rfl rfl rfl (by have h9 : decide ((rest.map jcat).sum ≤ 8) = true := decide_eq_true hcat; simp only [rmB, h9]; rfl) (jdet rfl ?_)
    exact j_top (by simp [price]) kont
  · refine j_callO (pc' := 38) (q := 9) (as := [aI f]) (rest := rest) (Mx := m_Part_price) dX11_cost_35 rfl s_Top_360_Deep s_Top_360_Part (c_Deep_price (by decide) t7 rfl) (by decide) t7 rfl rfl rfl (by have h9 : decide ((rest.map jcat).sum ≤ 8) = true := decide_eq_true hcat; simp only [rmB, h9]; rfl) (jdet rfl ?_)
    exact j_top (by simp [price]) kont
set_option maxRecDepth 100000 in
set_option maxHeartbeats 4000000 in
theorem c_Top_cost {l : Launch} {w : AW} {D Di : Int → Int → Int} {n mi hi ni mj : Int} {sh E : Int → Int → Int} {d : Int} (hW : Comp w D n mi hi Di ni mj sh E) (hB : CarOK D n mi) (hI : CarOK Di ni mj) (hhi : hi = 0 ∨ hi = 1) (hsh : ShOK sh E) (hd : inI d) : Call l m_Top_cost false 68 68 [aR 0, aI d] w (jC w (if kinR sh d = 0 then price (sh 1 d) (sh 2 d) else kinR sh d) D n mi hi Di ni mj sh E) := by
  have hT := TS.rf hW
  obtain ⟨hO, hK, hC, ⟨Dt, nt, mt, hCt⟩, hCi, hS34, hSh, ⟨po, hPo⟩, ⟨di, hDi⟩⟩ := hW
  obtain ⟨hn, hD, hs0, hs1, hs2, hs3⟩ := id hB
  refine Call.of (L := [some (aR 0), some (aI d), none]) rfl (Nat.le_of_ble_eq_true rfl) rfl (fun G ad => ?_)
  refine j_aload_n (pc' := 1) (z := 0) dX11_cost_0 rfl rfl ?_
  refine j_iload_n (pc' := 2) (z := d) dX11_cost_1 rfl rfl ?_
  refine j_callV (pc' := 5) (as := [aI d]) (rest := []) dX11_cost_2 rfl s_Top_357 (c_Top_kindRefusal hT.1 hsh (by omega)) (by omega) hO rfl rfl rfl rfl (jdet (st' := [aI (kinR sh d)]) rfl ?_)
  refine j_istore_n (pc' := 6) (L' := [some (aR 0), some (aI d), some (aI (kinR sh d))]) dX11_cost_5 rfl (by decide) rfl ?_
  refine j_iload_n (pc' := 7) (z := (kinR sh d)) dX11_cost_6 rfl rfl ?_
  have hrb := kinR_bd (sh := sh) (d := d)
  refine j_if_eq (tgt := 12) (pc' := 10) dX11_cost_7 (by decide) rfl (by omega) (fun h7 => ?_) (fun h7 => ?_)
  · obtain ⟨hd7, hct⟩ := kinR_0 h7
    obtain ⟨q1, q2, q3, q4, q5, q6⟩ := id (hsh d hd7)
    refine j_aload_n (pc' := 13) (z := 0) dX11_cost_12 rfl rfl ?_
    refine j_get (pc' := 16) (v := aR 1) dX11_cost_13 rfl f_Top_31 (by omega) hO rfl ?_
    refine j_aload_n (pc' := 17) (z := 0) dX11_cost_16 rfl rfl ?_
    refine j_get (pc' := 20) (v := aR 34) dX11_cost_17 rfl f_Top_58 (by omega) hO rfl ?_
    refine j_iload_n (pc' := 21) (z := d) dX11_cost_20 rfl rfl ?_
    refine j_aald (pc' := 22) (r := (35 + 2 * (d).toNat)) (Cn := "RattleAtFifty$Shelf") dX11_cost_21 rfl (by omega) hS34 rfl (by omega) (by decide) rfl ?_
    refine j_get (pc' := 25) (v := aI (sh 1 d)) dX11_cost_22 rfl f_Top_134 (by omega) (hSh d (by omega)).1 rfl ?_
    refine j_aald (pc' := 26) (r := (2 + (sh 1 d).toNat)) (Cn := "RattleAtFifty$Part") dX11_cost_25 rfl (by omega) hK.1 rfl (by omega) (by decide) rfl ?_
    refine j_aload_n (pc' := 27) (z := 0) dX11_cost_26 rfl rfl ?_
    refine j_get (pc' := 30) (v := aR 34) dX11_cost_27 rfl f_Top_58 (by omega) hO rfl ?_
    refine j_iload_n (pc' := 31) (z := d) dX11_cost_30 rfl rfl ?_
    refine j_aald (pc' := 32) (r := (35 + 2 * (d).toNat)) (Cn := "RattleAtFifty$Shelf") dX11_cost_31 rfl (by omega) hS34 rfl (by omega) (by decide) rfl ?_
    refine j_get (pc' := 35) (v := aI (sh 2 d)) dX11_cost_32 rfl f_Top_136 (by omega) (hSh d (by omega)).1 rfl ?_
    refine jk_Top_cost_35 (k := sh 1 d) (f := sh 2 d) hK (by omega) (Nat.le_of_ble_eq_true rfl) ?_
    exact j_iret dX11_cost_38 rfl (jC_of (by rw [if_pos h7]) hT)
  · refine j_iload_n (pc' := 11) (z := (kinR sh d)) dX11_cost_10 rfl rfl ?_
    exact j_iret dX11_cost_11 rfl (jC_of (by rw [if_neg h7]) hT)
def keepA (d what k f : Int) : Int := if (0 ≤ d ∧ d ≤ 7) ∧ (0 ≤ what ∧ what ≤ 1) ∧ (what = 1 → (0 ≤ k ∧ k ≤ 7) ∧ (0 ≤ f ∧ f ≤ 9)) then 0 else -1
def keepS (sh : Int → Int → Int) (d what k f : Int) : Int → Int → Int := if keepA d what k f = 0 then (if what = 0 then shU sh d 0 (sh 1 d) (sh 2 d) (sh 3 d) 0 else shU sh d 1 k f (sh 3 d) 0) else sh
theorem elU_id {E : Int → Int → Int} {d : Int} : elU E d (E d) = E := by
  funext x; unfold elU; split
  · subst_vars; rfl
  · rfl
def rowA (d so n : Int) : Int := if (0 ≤ d ∧ d ≤ 7) ∧ (0 ≤ so ∧ so ≤ 2) ∧ n ≤ 100 then (if n < 0 then -14 else 0) else -1
def rowS (sh : Int → Int → Int) (d so n : Int) : Int → Int → Int := if rowA d so n = 0 then shU sh d 2 (sh 1 d) (sh 2 d) so n else sh
def rowE (E : Int → Int → Int) (d so n : Int) : Int → Int → Int := if rowA d so n = 0 then elU E d (zer (E d) 100) else E
def putA (sh : Int → Int → Int) (d i : Int) : Int := if rowR sh d = 0 then (if 0 ≤ i ∧ i < sh 4 d then 0 else -13) else rowR sh d
def putE (sh E : Int → Int → Int) (d i v : Int) : Int → Int → Int := if putA sh d i = 0 then elU E d (upi (E d) i (nar (sh 3 d) v)) else E
theorem shU_id {sh : Int → Int → Int} {d : Int} {w0 w : AW} {D Di : Int → Int → Int} {n mi hi ni mj : Int} {E : Int → Int → Int} (h : TS w0 w D n mi hi Di ni mj (shU sh d (sh 0 d) (sh 1 d) (sh 2 d) (sh 3 d) (sh 4 d)) E) : TS w0 w D n mi hi Di ni mj sh E := by
  obtain ⟨⟨h1, h2, h3, h4, h5, h6, h7, h8⟩, hf⟩ := h
  refine ⟨⟨h1, h2, h3, h4, h5, h6, fun x hx => ?_, h8⟩, hf⟩
  have := h7 x hx
  unfold shU at this
  by_cases hxd : x = d
  · subst hxd; simpa using this
  · simpa [hxd] using this
set_option maxRecDepth 100000 in
set_option maxHeartbeats 4000000 in
theorem c_Top_keep {l : Launch} {w : AW} {D Di : Int → Int → Int} {n mi hi ni mj : Int} {sh E : Int → Int → Int} {d x k f : Int} (hW : Comp w D n mi hi Di ni mj sh E) (hB : CarOK D n mi) (hI : CarOK Di ni mj) (hhi : hi = 0 ∨ hi = 1) (hsh : ShOK sh E) (hd : inI d) (hx : inI x) (hk : inI k) (hf : inI f) : Call l m_Top_keep false 68 68 [aR 0, aI d, aI x, aI k, aI f] w (jC w (keepA d x k f) D n mi hi Di ni mj (keepS sh d x k f) E) := by
  have hT := TS.rf hW
  obtain ⟨hO, hK, hC, ⟨Dt, nt, mt, hCt⟩, hCi, hS34, hSh, ⟨po, hPo⟩, ⟨di, hDi⟩⟩ := hW
  obtain ⟨hn, hD, hs0, hs1, hs2, hs3⟩ := id hB
  refine Call.of (L := [some (aR 0), some (aI d), some (aI x), some (aI k), some (aI f)]) rfl (Nat.le_of_ble_eq_true rfl) rfl (fun G ad => ?_)
  refine j_iload_n (pc' := 1) (z := d) dX11_keep_0 rfl rfl ?_
  refine j_callS (pc' := 4) (as := [aI d]) (rest := []) dX11_keep_1 rfl s_Top_120 (c_isShelf (by omega)) rfl rfl rfl (jdet (st' := [aB (0 ≤ d ∧ d ≤ 7)]) rfl ?_)
  refine j_ifb_eq (tgt := 14) (pc' := 7) dX11_keep_4 (by decide) rfl (fun h4 => ?_) (fun h4 => ?_)
  · refine j_iconst (pc' := 15) dX11_keep_14 rfl ?_
    exact j_iret dX11_keep_15 rfl (jC_of (by unfold keepA; (repeat' split) <;> first | rfl | omega) (by rw [show keepS sh d x k f = sh from if_neg (by unfold keepA; rw [if_neg (by omega)]; omega)]; exact hT))
  · refine j_iload_n (pc' := 8) (z := x) dX11_keep_7 rfl rfl ?_
    refine j_callS (pc' := 11) (as := [aI x]) (rest := []) dX11_keep_8 rfl s_Top_173 (c_isEither (by omega)) rfl rfl rfl (jdet (st' := [aB (0 ≤ x ∧ x ≤ 1)]) rfl ?_)
    refine j_ifb_ne (tgt := 16) (pc' := 14) dX11_keep_11 (by decide) rfl (fun h11 => ?_) (fun h11 => ?_)
    · refine j_iload_n (pc' := 17) (z := x) dX11_keep_16 rfl rfl ?_
      refine j_if_ne (tgt := 31) (pc' := 20) dX11_keep_17 (by decide) rfl (by omega) (fun h17 => ?_) (fun h17 => ?_)
      · refine j_iload_n (pc' := 32) (z := k) dX11_keep_31 rfl rfl ?_
        refine j_iconst (pc' := 33) dX11_keep_32 rfl ?_
        refine j_bipush (pc' := 35) dX11_keep_33 rfl (by decide) ?_
        refine j_callS (pc' := 38) (as := [aI k, aI 0, aI 7]) (rest := []) dX11_keep_35 rfl s_Top_126 (c_within (by omega) (by omega) (by omega)) rfl rfl rfl (jdet (st' := [aB (0 ≤ k ∧ k ≤ 7)]) rfl ?_)
        refine j_ifb_eq (tgt := 52) (pc' := 41) dX11_keep_38 (by decide) rfl (fun h38 => ?_) (fun h38 => ?_)
        · refine j_iconst (pc' := 53) dX11_keep_52 rfl ?_
          exact j_iret dX11_keep_53 rfl (jC_of (by unfold keepA; (repeat' split) <;> first | rfl | omega) (by rw [show keepS sh d x k f = sh from if_neg (by unfold keepA; rw [if_neg (by omega)]; omega)]; exact hT))
        · refine j_iload (pc' := 43) (z := f) dX11_keep_41 rfl rfl ?_
          refine j_iconst (pc' := 44) dX11_keep_43 rfl ?_
          refine j_bipush (pc' := 46) dX11_keep_44 rfl (by decide) ?_
          refine j_callS (pc' := 49) (as := [aI f, aI 0, aI 9]) (rest := []) dX11_keep_46 rfl s_Top_126 (c_within (by omega) (by omega) (by omega)) rfl rfl rfl (jdet (st' := [aB (0 ≤ f ∧ f ≤ 9)]) rfl ?_)
          refine j_ifb_ne (tgt := 54) (pc' := 52) dX11_keep_49 (by decide) rfl (fun h49 => ?_) (fun h49 => ?_)
          · refine j_aload_n (pc' := 55) (z := 0) dX11_keep_54 rfl rfl ?_
            refine j_get (pc' := 58) (v := aR 34) dX11_keep_55 rfl f_Top_58 (by omega) hO rfl ?_
            refine j_iload_n (pc' := 59) (z := d) dX11_keep_58 rfl rfl ?_
            refine j_aald (pc' := 60) (r := (35 + 2 * (d).toNat)) (Cn := "RattleAtFifty$Shelf") dX11_keep_59 rfl (by omega) hS34 rfl (by omega) (by decide) rfl ?_
            refine j_iload_n (pc' := 61) (z := k) dX11_keep_60 rfl rfl ?_
            refine j_iload (pc' := 63) (z := f) dX11_keep_61 rfl rfl ?_
            refine j_callV (pc' := 66) (as := [aI k, aI f]) (rest := []) dX11_keep_63 rfl s_Top_316 (c_Shelf_takeKind (hSh d (by omega)) (hsh d (by omega)) (by omega)) (by omega) (hSh d (by omega)).1 rfl rfl rfl rfl (jdet (st' := []) rfl ?_)
            refine j_iconst (pc' := 67) dX11_keep_66 rfl ?_
            exact j_iret dX11_keep_67 rfl (jC_of (by unfold keepA; (repeat' split) <;> first | rfl | omega) (by unfold keepS; rw [if_pos (show keepA d x k f = 0 by unfold keepA; rw [if_pos (by omega)]), if_neg (by omega)]; have h9 := (hT.shelf (w' := up w (35 + 2 * (d).toNat) (eO 8 [aI 1, aI k, aI f, aI (sh 3 d), aI 0, aR ((35 + 2 * (d).toNat) + 1)])) (d := d) (ct := 1) (k := k) (f := f) (so := sh 3 d) (sz := 0) (F := E d) (by omega) ⟨by simp [up], by simp [up, (hSh d (by omega)).2]⟩ (fun j g1 g2 => by simp only [up]; (repeat' split) <;> first | rfl | (exfalso; omega))); rw [elU_id] at h9; exact h9))
          · refine j_iconst (pc' := 53) dX11_keep_52 rfl ?_
            exact j_iret dX11_keep_53 rfl (jC_of (by unfold keepA; (repeat' split) <;> first | rfl | omega) (by rw [show keepS sh d x k f = sh from if_neg (by unfold keepA; rw [if_neg (by omega)]; omega)]; exact hT))
      · refine j_aload_n (pc' := 21) (z := 0) dX11_keep_20 rfl rfl ?_
        refine j_get (pc' := 24) (v := aR 34) dX11_keep_21 rfl f_Top_58 (by omega) hO rfl ?_
        refine j_iload_n (pc' := 25) (z := d) dX11_keep_24 rfl rfl ?_
        refine j_aald (pc' := 26) (r := (35 + 2 * (d).toNat)) (Cn := "RattleAtFifty$Shelf") dX11_keep_25 rfl (by omega) hS34 rfl (by omega) (by decide) rfl ?_
        refine j_callV (pc' := 29) (as := []) (rest := []) dX11_keep_26 rfl s_Top_313 (c_Shelf_clear (hSh d (by omega)) (hsh d (by omega)) (by omega)) (by omega) (hSh d (by omega)).1 rfl rfl rfl rfl (jdet (st' := []) rfl ?_)
        refine j_iconst (pc' := 30) dX11_keep_29 rfl ?_
        exact j_iret dX11_keep_30 rfl (jC_of (by unfold keepA; (repeat' split) <;> first | rfl | omega) (by unfold keepS; rw [if_pos (show keepA d x k f = 0 by unfold keepA; rw [if_pos (by omega)]), if_pos (by omega)]; have h9 := (hT.shelf (w' := up w (35 + 2 * (d).toNat) (eO 8 [aI 0, aI (sh 1 d), aI (sh 2 d), aI (sh 3 d), aI 0, aR ((35 + 2 * (d).toNat) + 1)])) (d := d) (ct := 0) (k := sh 1 d) (f := sh 2 d) (so := sh 3 d) (sz := 0) (F := E d) (by omega) ⟨by simp [up], by simp [up, (hSh d (by omega)).2]⟩ (fun j g1 g2 => by simp only [up]; (repeat' split) <;> first | rfl | (exfalso; omega))); rw [elU_id] at h9; exact h9))
    · refine j_iconst (pc' := 15) dX11_keep_14 rfl ?_
      exact j_iret dX11_keep_15 rfl (jC_of (by unfold keepA; (repeat' split) <;> first | rfl | omega) (by rw [show keepS sh d x k f = sh from if_neg (by unfold keepA; rw [if_neg (by omega)]; omega)]; exact hT))
set_option maxRecDepth 100000 in
set_option maxHeartbeats 4000000 in
theorem c_Top_row {l : Launch} {w : AW} {D Di : Int → Int → Int} {n mi hi ni mj : Int} {sh E : Int → Int → Int} {d so x : Int} (hW : Comp w D n mi hi Di ni mj sh E) (hB : CarOK D n mi) (hI : CarOK Di ni mj) (hhi : hi = 0 ∨ hi = 1) (hsh : ShOK sh E) (hd : inI d) (hso : inI so) (hx : inI x) : Call l m_Top_row false 68 68 [aR 0, aI d, aI so, aI x] w (jC w (rowA d so x) D n mi hi Di ni mj (rowS sh d so x) (rowE E d so x)) := by
  have hT := TS.rf hW
  obtain ⟨hO, hK, hC, ⟨Dt, nt, mt, hCt⟩, hCi, hS34, hSh, ⟨po, hPo⟩, ⟨di, hDi⟩⟩ := hW
  obtain ⟨hn, hD, hs0, hs1, hs2, hs3⟩ := id hB
  refine Call.of (L := [some (aR 0), some (aI d), some (aI so), some (aI x)]) rfl (Nat.le_of_ble_eq_true rfl) rfl (fun G ad => ?_)
  refine j_iload_n (pc' := 1) (z := d) dX11_row_0 rfl rfl ?_
  refine j_callS (pc' := 4) (as := [aI d]) (rest := []) dX11_row_1 rfl s_Top_120 (c_isShelf (by omega)) rfl rfl rfl (jdet (st' := [aB (0 ≤ d ∧ d ≤ 7)]) rfl ?_)
  refine j_ifb_eq (tgt := 22) (pc' := 7) dX11_row_4 (by decide) rfl (fun h4 => ?_) (fun h4 => ?_)
  · refine j_iconst (pc' := 23) dX11_row_22 rfl ?_
    exact j_iret dX11_row_23 rfl (jC_of (by unfold rowA; (repeat' split) <;> first | rfl | omega) (by have h8 : ¬ rowA d so x = 0 := (by unfold rowA; rw [if_neg (by omega)]; omega); unfold rowS rowE; rw [if_neg h8, if_neg h8]; exact hT))
  · refine j_iload_n (pc' := 8) (z := so) dX11_row_7 rfl rfl ?_
    refine j_iconst (pc' := 9) dX11_row_8 rfl ?_
    refine j_iconst (pc' := 10) dX11_row_9 rfl ?_
    refine j_callS (pc' := 13) (as := [aI so, aI 0, aI 2]) (rest := []) dX11_row_10 rfl s_Top_126 (c_within (by omega) (by omega) (by omega)) rfl rfl rfl (jdet (st' := [aB (0 ≤ so ∧ so ≤ 2)]) rfl ?_)
    refine j_ifb_eq (tgt := 22) (pc' := 16) dX11_row_13 (by decide) rfl (fun h13 => ?_) (fun h13 => ?_)
    · refine j_iconst (pc' := 23) dX11_row_22 rfl ?_
      exact j_iret dX11_row_23 rfl (jC_of (by unfold rowA; (repeat' split) <;> first | rfl | omega) (by have h8 : ¬ rowA d so x = 0 := (by unfold rowA; rw [if_neg (by omega)]; omega); unfold rowS rowE; rw [if_neg h8, if_neg h8]; exact hT))
    · refine j_iload_n (pc' := 17) (z := x) dX11_row_16 rfl rfl ?_
      refine j_bipush (pc' := 19) dX11_row_17 rfl (by decide) ?_
      refine j_icmp_le (tgt := 24) (pc' := 22) dX11_row_19 (by decide) rfl (by omega) (by omega) (fun h19 => ?_) (fun h19 => ?_)
      · refine j_iload_n (pc' := 25) (z := x) dX11_row_24 rfl rfl ?_
        refine j_if_ge (tgt := 31) (pc' := 28) dX11_row_25 (by decide) rfl (by omega) (fun h25 => ?_) (fun h25 => ?_)
        · refine j_aload_n (pc' := 32) (z := 0) dX11_row_31 rfl rfl ?_
          refine j_get (pc' := 35) (v := aR 34) dX11_row_32 rfl f_Top_58 (by omega) hO rfl ?_
          refine j_iload_n (pc' := 36) (z := d) dX11_row_35 rfl rfl ?_
          refine j_aald (pc' := 37) (r := (35 + 2 * (d).toNat)) (Cn := "RattleAtFifty$Shelf") dX11_row_36 rfl (by omega) hS34 rfl (by omega) (by decide) rfl ?_
          refine j_iload_n (pc' := 38) (z := so) dX11_row_37 rfl rfl ?_
          refine j_iload_n (pc' := 39) (z := x) dX11_row_38 rfl rfl ?_
          refine j_callV (pc' := 42) (as := [aI so, aI x]) (rest := []) dX11_row_39 rfl s_Top_320 (c_Shelf_takeRow (hSh d (by omega)) (hsh d (by omega)) (by omega)) (by omega) (hSh d (by omega)).1 rfl rfl rfl rfl (jdet (st' := []) rfl ?_)
          refine j_iconst (pc' := 43) dX11_row_42 rfl ?_
          exact j_iret dX11_row_43 rfl (jC_of (by unfold rowA; (repeat' split) <;> first | rfl | omega) (by have h8 : rowA d so x = 0 := (by unfold rowA; rw [if_pos (by omega), if_neg (by omega)]); unfold rowS rowE; rw [if_pos h8, if_pos h8]; exact (hT.shelf (d := d) (ct := 2) (k := sh 1 d) (f := sh 2 d) (so := so) (sz := x) (F := zer (E d) 100) (by omega) ⟨by simp [up], by simp [up]⟩ (fun j g1 g2 => by simp only [up]; (repeat' split) <;> first | rfl | (exfalso; omega)))))
        · refine j_bipush (pc' := 30) dX11_row_28 rfl (by decide) ?_
          exact j_iret dX11_row_30 rfl (jC_of (by unfold rowA; (repeat' split) <;> first | rfl | omega) (by have h8 : ¬ rowA d so x = 0 := (by unfold rowA; rw [if_pos (by omega), if_pos (by omega)]; omega); unfold rowS rowE; rw [if_neg h8, if_neg h8]; exact hT))
      · refine j_iconst (pc' := 23) dX11_row_22 rfl ?_
        exact j_iret dX11_row_23 rfl (jC_of (by unfold rowA; (repeat' split) <;> first | rfl | omega) (by have h8 : ¬ rowA d so x = 0 := (by unfold rowA; rw [if_neg (by omega)]; omega); unfold rowS rowE; rw [if_neg h8, if_neg h8]; exact hT))
set_option maxRecDepth 100000 in
set_option maxHeartbeats 4000000 in
theorem c_Top_put {l : Launch} {w : AW} {D Di : Int → Int → Int} {n mi hi ni mj : Int} {sh E : Int → Int → Int} {d i v : Int} (hW : Comp w D n mi hi Di ni mj sh E) (hB : CarOK D n mi) (hI : CarOK Di ni mj) (hhi : hi = 0 ∨ hi = 1) (hsh : ShOK sh E) (hd : inI d) (hi9 : inI i) (hv : inI v) : Call l m_Top_put false 68 68 [aR 0, aI d, aI i, aI v] w (jC w (putA sh d i) D n mi hi Di ni mj sh (putE sh E d i v)) := by
  have hT := TS.rf hW
  obtain ⟨hO, hK, hC, ⟨Dt, nt, mt, hCt⟩, hCi, hS34, hSh, ⟨po, hPo⟩, ⟨di, hDi⟩⟩ := hW
  obtain ⟨hn, hD, hs0, hs1, hs2, hs3⟩ := id hB
  refine Call.of (L := [some (aR 0), some (aI d), some (aI i), some (aI v), none]) rfl (Nat.le_of_ble_eq_true rfl) rfl (fun G ad => ?_)
  refine j_aload_n (pc' := 1) (z := 0) dX11_put_0 rfl rfl ?_
  refine j_iload_n (pc' := 2) (z := d) dX11_put_1 rfl rfl ?_
  refine j_callV (pc' := 5) (as := [aI d]) (rest := []) dX11_put_2 rfl s_Top_70 (c_Top_rowRefusal hT.1 hsh (by omega)) (by omega) hO rfl rfl rfl rfl (jdet (st' := [aI (rowR sh d)]) rfl ?_)
  refine j_istore (pc' := 7) (L' := [some (aR 0), some (aI d), some (aI i), some (aI v), some (aI (rowR sh d))]) dX11_put_5 rfl (by decide) rfl ?_
  refine j_iload (pc' := 9) (z := (rowR sh d)) dX11_put_7 rfl rfl ?_
  have hrb := rowR_bd (sh := sh) (d := d)
  refine j_if_eq (tgt := 15) (pc' := 12) dX11_put_9 (by decide) rfl (by omega) (fun h9 => ?_) (fun h9 => ?_)
  · obtain ⟨hd7, hct⟩ := rowR_0 h9
    obtain ⟨q1, q2, q3, q4, q5, q6⟩ := id (hsh d hd7)
    refine j_aload_n (pc' := 16) (z := 0) dX11_put_15 rfl rfl ?_
    refine j_get (pc' := 19) (v := aR 34) dX11_put_16 rfl f_Top_58 (by omega) hO rfl ?_
    refine j_iload_n (pc' := 20) (z := d) dX11_put_19 rfl rfl ?_
    refine j_aald (pc' := 21) (r := (35 + 2 * (d).toNat)) (Cn := "RattleAtFifty$Shelf") dX11_put_20 rfl (by omega) hS34 rfl (by omega) (by decide) rfl ?_
    refine j_iload_n (pc' := 22) (z := i) dX11_put_21 rfl rfl ?_
    refine j_callV (pc' := 25) (as := [aI i]) (rest := []) dX11_put_22 rfl s_Top_323 (c_Shelf_hasPlace (hSh d (by omega)) (hsh d (by omega)) (by omega) (by omega)) (by omega) (hSh d (by omega)).1 rfl rfl rfl rfl (jdet (st' := [aB (0 ≤ i ∧ i < sh 4 d)]) rfl ?_)
    refine j_ifb_ne (tgt := 31) (pc' := 28) dX11_put_25 (by decide) rfl (fun h25 => ?_) (fun h25 => ?_)
    · refine j_aload_n (pc' := 32) (z := 0) dX11_put_31 rfl rfl ?_
      refine j_get (pc' := 35) (v := aR 34) dX11_put_32 rfl f_Top_58 (by omega) hO rfl ?_
      refine j_iload_n (pc' := 36) (z := d) dX11_put_35 rfl rfl ?_
      refine j_aald (pc' := 37) (r := (35 + 2 * (d).toNat)) (Cn := "RattleAtFifty$Shelf") dX11_put_36 rfl (by omega) hS34 rfl (by omega) (by decide) rfl ?_
      refine j_iload_n (pc' := 38) (z := i) dX11_put_37 rfl rfl ?_
      refine j_iload_n (pc' := 39) (z := v) dX11_put_38 rfl rfl ?_
      refine j_callV (pc' := 42) (as := [aI i, aI v]) (rest := []) dX11_put_39 rfl s_Top_326 (c_Shelf_store (hSh d (by omega)) (hsh d (by omega)) (by omega) (by omega)) (by omega) (hSh d (by omega)).1 rfl rfl rfl rfl (jdet (st' := []) rfl ?_)
      refine j_iconst (pc' := 43) dX11_put_42 rfl ?_
      exact j_iret dX11_put_43 rfl (jC_of (by unfold putA; (repeat' split) <;> first | rfl | omega) (by rw [show putE sh E d i v = elU E d (upi (E d) i (nar (sh 3 d) v)) from if_pos (by unfold putA; rw [if_pos h9, if_pos h25])]; exact shU_id (hT.shelf (d := d) (ct := sh 0 d) (k := sh 1 d) (f := sh 2 d) (so := sh 3 d) (sz := sh 4 d) (F := upi (E d) i (nar (sh 3 d) v)) (by omega) ⟨by simp [up, (hSh d (by omega)).1], by simp [up]⟩ (fun j g1 g2 => by simp only [up]; (repeat' split) <;> first | rfl | (exfalso; omega)))))
    · refine j_bipush (pc' := 30) dX11_put_28 rfl (by decide) ?_
      exact j_iret dX11_put_30 rfl (jC_of (by unfold putA; (repeat' split) <;> first | rfl | omega) (by rw [show putE sh E d i v = E from if_neg (by unfold putA; rw [if_pos h9, if_neg h25]; omega)]; exact hT))
  · refine j_iload (pc' := 14) (z := (rowR sh d)) dX11_put_12 rfl rfl ?_
    exact j_iret dX11_put_14 rfl (jC_of (by unfold putA; (repeat' split) <;> first | rfl | omega) (by rw [show putE sh E d i v = E from if_neg (by unfold putA; rw [if_neg h9]; exact h9)]; exact hT))
