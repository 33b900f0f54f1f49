theorem j_last {l : Launch} {M : MI} {ad : Nat → Nat} {G : JG} {X : List (Nat × Nat × (Int → Int))} {al : Bool} {Z : JZ} {N cells slots pc pc' : Nat} {L : List (Option AV)} {st : List AV} {w : AW} {q n : Nat} {f : Int → Int} {i z : Int} (hd : JD M pc .lastore 1) (hp : pc + 1 = pc') (hq : q < N) (hw : w q = eL n f) (hi : 0 ≤ i ∧ i < n) (hn : n ≤ 100000) (kk : J l M ad G X al Z N cells slots pc' L st (up w q (eL n (upi f i z)))) : J l M ad G X al Z N cells slots pc L (aL z :: aI i :: aR q :: st) w := by
  subst hp
  intro p e s m args below meth c A H locs ls C P D S sz hl
  obtain ⟨h1, h2⟩ := ix_in hi hn
  have he := jw_get' (ca := G.2.2) (ad := ad) hq hw
  refine W.last (rest := st.map (jv ad)) C.1.1 C.1.2.1 (P q _ he) ((C.2.2.2.2.1.1.2 1 (G.2.2 1, .long) rfl).1 n (fun j => .long (Int64.ofInt (f j)))) (fun q => by cases q) (by show ¬ (_ ∨ (arrV _ _ _).slots.size ≤ _); rw [arrV_size]; exact h1) rfl rfl hd fun H1 e z9 oq => ?_
  have hP' : va_P (G.1, G.2.1) classes ((jw G.2.2 ad w N).set q (ad q, je G.2.2 ad (eL n (upi f i z)))) H1 := by
    refine P.set D he ?_ oq
    show H1[ad q]? = some (vp_cell _ _)
    rw [e]
    rw [vp_cell_l, vp_cell_l, arrV_store]
    congr 2
    funext j
    rw [h2]
    by_cases hj : j = i.toNat
    · subst hj
      simp [updV, upi, Int.toNat_of_nonneg hi.1]
    · have hne : (j : Int) ≠ i := by omega
      simp [updV, hj, upi, hne]
  have hD' := D.set (e := je G.2.2 ad (eL n (upi f i z))) he
  rw [jw_set] at hP' hD'
  exact kk p _ s m args below meth c A H1 _ ls C hP' hD' (S.put z9 oq (D.2 q _ he)) (fun h => by rw [z9]; exact sz h) hl
set_option maxRecDepth 100000 in
set_option maxHeartbeats 4000000 in
theorem c_Top_element {l : Launch} {w : AW} {D Di : Int → Int → Int} {n mi hi ni mj : Int} {sh E : Int → Int → Int} {d i : Int} (hl9 : l.stackTraces = false) (hW : Comp w D n mi hi Di ni mj sh E) (hB : CarOK D n mi) (hI : CarOK Di ni mj) (hhi : hi = 0 ∨ hi = 1) (hsh : ShOK sh E) (hd : inI d) (hi9 : inI i) : CallX l m_Top_element 68 [aR 0, aI d, aI i] w (fun r w' => r = some (aL (elV sh E d i)) ∧ w' = w ∧ elT sh d i = 0) (fun X9 w' => w' = w ∧ ((X9 = xIA ∧ elT sh d i = 1) ∨ (X9 = xIS ∧ elT sh d i = 2))) := by
  obtain ⟨hO, hK, hC, ⟨Dt, nt, mt, hCt⟩, hCi, hS34, hSh, ⟨po, hPo⟩, ⟨di, hDi⟩⟩ := hW
  refine CallX.of (L := [some (aR 0), some (aI d), some (aI i)]) rfl (Nat.le_of_ble_eq_true rfl) rfl (fun G ad => ?_)
  refine j_iload_n (pc' := 1) (z := d) dX11_element_0 rfl rfl ?_
  refine j_callS (pc' := 4) (as := [aI d]) (rest := []) dX11_element_1 rfl s_Top_120 (c_isShelf (by omega)) rfl rfl rfl (jdet (st' := [aB (0 ≤ d ∧ d ≤ 7)]) rfl ?_)
  refine j_ifb_ne (tgt := 18) (pc' := 7) dX11_element_4 (by decide) rfl (fun h4 => ?_) (fun h4 => ?_)
  · obtain ⟨q1, q2, q3, q4, q5, q6⟩ := id (hsh d h4)
    refine j_aload_n (pc' := 19) (z := 0) dX11_element_18 rfl rfl ?_
    refine j_get (pc' := 22) (v := aR 34) dX11_element_19 rfl f_Top_58 (by omega) hO rfl ?_
    refine j_iload_n (pc' := 23) (z := d) dX11_element_22 rfl rfl ?_
    refine j_aald (pc' := 24) (r := (35 + 2 * (d).toNat)) (Cn := "RattleAtFifty$Shelf") dX11_element_23 rfl (by omega) hS34 rfl (by omega) (by decide) rfl ?_
    refine j_callV (pc' := 27) (as := []) (rest := []) dX11_element_24 rfl s_Top_336 (c_Shelf_refusalAsRow (hSh d (by omega)) (hsh d (by omega)) (by omega)) (by omega) (hSh d (by omega)).1 rfl rfl rfl rfl (jdet (st' := [aI (refR (sh 0 d))]) rfl ?_)
    have hrb : -12 ≤ refR (sh 0 d) ∧ refR (sh 0 d) ≤ 0 := by unfold refR; (repeat' split) <;> omega
    have hthr : elT sh d i = 2 → J l m_Top_element ad G [] false (jZX ad G 68 1 6 (fun r w' => r = some (aL (elV sh E d i)) ∧ w' = w ∧ elT sh d i = 0) (fun X9 w' => w' = w ∧ ((X9 = xIA ∧ elT sh d i = 1) ∨ (X9 = xIS ∧ elT sh d i = 2)))) 68 0 0 43 [some (aR 0), some (aI d), some (aI i)] [] w := fun h9 => j_throwSW (cls := "java/lang/IllegalStateException") (text := "no row, or no such place in it") (names := xRT) (ik := 339) (is := 341) (ic := 343) hl9 dX11_element_43 dX11_element_46 dX11_element_47 dX11_element_50 dX11_element_53 (by decide +kernel) xfit (gt_1 831 (by decide +kernel) (by decide +kernel)) (gt_1 61 (by decide +kernel) (by decide +kernel)) (fun s h => h.2.2.2.2.2.2.1) xw_T2_g xw_T2_f (gt_1 953 (by decide +kernel) (by decide +kernel)) (by decide) ⟨rfl, Or.inr ⟨rfl, h9⟩⟩
    refine j_if_ne (tgt := 43) (pc' := 30) dX11_element_27 (by decide) rfl (by omega) (fun h7 => ?_) (fun h7 => ?_)
    · refine hthr ?_
      unfold elT
      rw [if_pos h4, if_neg]
      rintro ⟨h8, -⟩
      exact h7 (by unfold refR; rw [h8]; rfl)
    · have hct : sh 0 d = 2 := by unfold refR at h7; (repeat' split at h7) <;> omega
      refine j_aload_n (pc' := 31) (z := 0) dX11_element_30 rfl rfl ?_
      refine j_get (pc' := 34) (v := aR 34) dX11_element_31 rfl f_Top_58 (by omega) hO rfl ?_
      refine j_iload_n (pc' := 35) (z := d) dX11_element_34 rfl rfl ?_
      refine j_aald (pc' := 36) (r := (35 + 2 * (d).toNat)) (Cn := "RattleAtFifty$Shelf") dX11_element_35 rfl (by omega) hS34 rfl (by omega) (by decide) rfl ?_
      refine j_iload_n (pc' := 37) (z := i) dX11_element_36 rfl rfl ?_
      refine j_callV (pc' := 40) (as := [aI i]) (rest := []) dX11_element_37 rfl s_Top_323 (c_Shelf_hasPlace (hSh d (by omega)) (hsh d (by omega)) (by omega) (by omega)) (by omega) (hSh d (by omega)).1 rfl rfl rfl rfl (jdet (st' := [aB (0 ≤ i ∧ i < sh 4 d)]) rfl ?_)
      refine j_ifb_ne (tgt := 54) (pc' := 43) dX11_element_40 (by decide) rfl (fun h8 => ?_) (fun h8 => ?_)
      · have hT0 : elT sh d i = 0 := by unfold elT; rw [if_pos h4, if_pos ⟨hct, h8⟩]
        have q7 := q6 i (by omega) (by omega)
        refine j_aload_n (pc' := 55) (z := 0) dX11_element_54 rfl rfl ?_
        refine j_get (pc' := 58) (v := aR 34) dX11_element_55 rfl f_Top_58 (by omega) hO rfl ?_
        refine j_iload_n (pc' := 59) (z := d) dX11_element_58 rfl rfl ?_
        refine j_aald (pc' := 60) (r := (35 + 2 * (d).toNat)) (Cn := "RattleAtFifty$Shelf") dX11_element_59 rfl (by omega) hS34 rfl (by omega) (by decide) rfl ?_
        refine j_get (pc' := 63) (v := aR (36 + 2 * (d).toNat)) dX11_element_60 rfl f_Top_262 (by omega) (hSh d (by omega)).1 (by show some (aR (35 + 2 * d.toNat + 1)) = some (aR (36 + 2 * d.toNat)); rw [show 35 + 2 * d.toNat + 1 = 36 + 2 * d.toNat by omega]) ?_
        refine j_iload_n (pc' := 64) (z := i) dX11_element_63 rfl rfl ?_
        refine j_iald (pc' := 65) (f := E d) (n := 100) dX11_element_64 rfl (by omega) (by rw [show 36 + 2 * d.toNat = 35 + 2 * d.toNat + 1 by omega]; exact (hSh d (by omega)).2) (by omega) (by decide) ?_
        refine j_i2l (pc' := 66) dX11_element_65 rfl (by omega) ?_
        refine j_wide (k9 := 1) (n9 := 6) (by decide) (by decide) (j_xret ?_)
        exact j_lret dX11_element_66 rfl ⟨by unfold elV; rw [if_pos hT0], rfl, hT0⟩
      · refine hthr ?_
        unfold elT
        rw [if_pos h4, if_neg]
        rintro ⟨-, h9⟩
        exact h8 h9
  · exact j_throwSW (cls := "java/lang/IllegalArgumentException") (text := "no such shelf") (names := xRT) (ik := 329) (is := 331) (ic := 333) hl9 dX11_element_7 dX11_element_10 dX11_element_11 dX11_element_14 dX11_element_17 (by decide +kernel) xfit (gt_1 830 (by decide +kernel) (by decide +kernel)) (gt_1 60 (by decide +kernel) (by decide +kernel)) (fun s h => h.2.2.2.2.2.1) xw_T1_g xw_T1_f (gt_1 953 (by decide +kernel) (by decide +kernel)) (by decide) ⟨rfl, Or.inl ⟨rfl, by unfold elT; rw [if_neg h4]⟩⟩
abbrev hhT : List (Nat × Nat × Nat × Nat) := [(38, 44, 47, 329), (38, 44, 60, 339), (38, 44, 68, 366)]
abbrev hhL : List (Nat × Nat × Nat × Nat) := [(0, 9, 12, 13), (0, 9, 16, 15)]
theorem c_Dead_fail {l : Launch} {N p : Nat} {w : AW} {fig : Int} : Call l m_Dead_fail false N N [aR p, aI fig] w (rt none w) := by
  refine Call.of (L := [some (aR p), some (aI fig)]) rfl (Nat.le_of_ble_eq_true rfl) rfl (fun G ad => ?_)
  exact j_vret dX1_fail_0 rfl ⟨rfl, rfl⟩
set_option maxRecDepth 100000 in
set_option maxHeartbeats 4000000 in
theorem c_Top_toss {l : Launch} {w : AW} {D Di : Int → Int → Int} {n mi hi ni mj : Int} {sh E : Int → Int → Int} {d : Int} (hl9 : l.stackTraces = false) (hW : Comp w D n mi hi Di ni mj sh E) (hB : CarOK D n mi) (hI : CarOK Di ni mj) (hhi : hi = 0 ∨ hi = 1) (hsh : ShOK sh E) (hd : inI d) : CallH l m_Top_toss hhT 68 [aR 0, aI d] w (rt (some (aI (tossA sh d))) w) := by
  obtain ⟨hO, hK, hC, ⟨Dt, nt, mt, hCt⟩, hCi, hS34, hSh, ⟨po, hPo⟩, ⟨di, hDi⟩⟩ := id hW
  refine CallH.of (L := [some (aR 0), some (aI d), none, none, none, none]) rfl (Nat.le_of_ble_eq_true rfl) rfl (fun G ad => ?_)
  refine j_aload_n (pc' := 1) (z := 0) dX11_toss_0 rfl rfl ?_
  refine j_iload_n (pc' := 2) (z := d) dX11_toss_1 rfl rfl ?_
  refine j_callV (pc' := 5) (as := [aI d]) (rest := []) dX11_toss_2 rfl s_Top_357 (c_Top_kindRefusal hW hsh (by omega)) (by omega) hO rfl rfl rfl rfl (jdet (st' := [aI (kinR sh d)]) rfl ?_)
  refine j_istore_n (pc' := 6) (L' := [some (aR 0), some (aI d), some (aI (kinR sh d)), none, none, none]) dX11_toss_5 rfl (by decide) rfl ?_
  refine j_iload_n (pc' := 7) (z := (kinR sh d)) dX11_toss_6 rfl rfl ?_
  have hrb := kinR_bd (sh := sh) (d := d)
  refine j_if_eq (tgt := 12) (pc' := 10) dX11_toss_7 (by decide) rfl (by omega) (fun h7 => ?_) (fun h7 => ?_)
  · obtain ⟨hd7, hct⟩ := kinR_0 h7
    obtain ⟨q1, q2, q3, q4, q5, q6⟩ := id (hsh d hd7)
    refine j_aload_n (pc' := 13) (z := 0) dX11_toss_12 rfl rfl ?_
    refine j_get (pc' := 16) (v := aR 1) dX11_toss_13 rfl f_Top_31 (by omega) hO rfl ?_
    refine j_aload_n (pc' := 17) (z := 0) dX11_toss_16 rfl rfl ?_
    refine j_get (pc' := 20) (v := aR 34) dX11_toss_17 rfl f_Top_58 (by omega) hO rfl ?_
    refine j_iload_n (pc' := 21) (z := d) dX11_toss_20 rfl rfl ?_
    refine j_aald (pc' := 22) (r := (35 + 2 * (d).toNat)) (Cn := "RattleAtFifty$Shelf") dX11_toss_21 rfl (by omega) hS34 rfl (by omega) (by decide) rfl ?_
    refine j_get (pc' := 25) (v := aI (sh 1 d)) dX11_toss_22 rfl f_Top_134 (by omega) (hSh d (by omega)).1 rfl ?_
    refine j_aald (pc' := 26) (r := (2 + (sh 1 d).toNat)) (Cn := "RattleAtFifty$Part") dX11_toss_25 rfl (by omega) hK.1 rfl (by omega) (by decide) rfl ?_
    refine j_astore_n (pc' := 27) (L' := [some (aR 0), some (aI d), some (aI (kinR sh d)), some (aR (2 + (sh 1 d).toNat)), none, none]) dX11_toss_26 rfl (by decide) rfl ?_
    refine j_aload_n (pc' := 28) (z := 0) dX11_toss_27 rfl rfl ?_
    refine j_get (pc' := 31) (v := aR 34) dX11_toss_28 rfl f_Top_58 (by omega) hO rfl ?_
    refine j_iload_n (pc' := 32) (z := d) dX11_toss_31 rfl rfl ?_
    refine j_aald (pc' := 33) (r := (35 + 2 * (d).toNat)) (Cn := "RattleAtFifty$Shelf") dX11_toss_32 rfl (by omega) hS34 rfl (by omega) (by decide) rfl ?_
    refine j_get (pc' := 36) (v := aI (sh 2 d)) dX11_toss_33 rfl f_Top_136 (by omega) (hSh d (by omega)).1 rfl ?_
    refine j_istore (pc' := 38) (L' := [some (aR 0), some (aI d), some (aI (kinR sh d)), some (aR (2 + (sh 1 d).toNat)), some (aI (sh 2 d)), none]) dX11_toss_36 rfl (by decide) rfl ?_
    refine j_aload_n (pc' := 39) (z := (2 + (sh 1 d).toNat)) dX11_toss_38 rfl rfl ?_
    refine j_iload (pc' := 41) (z := sh 2 d) dX11_toss_39 rfl rfl ?_
    have hA : tossA sh d = (if sh 1 d = 6 ∨ sh 2 d = 0 then -15 else if sh 1 d = 5 then 200 + price (sh 1 d) (sh 2 d) else if sh 1 d = 2 then 100 + sh 2 d else sh 2 d) := by unfold tossA; rw [if_pos h7]
    generalize tossA sh d = ans at hA ⊢
    generalize sh 1 d = k at q2 hA ⊢
    generalize sh 2 d = f at q3 hA ⊢
    have kn : (k = 6 ∨ ¬ 0 < f) → J l m_Top_toss ad G [] false (jZX ad G 68 1 6 (rt (some (aI ans)) w) (fun _ _ => False)) 68 1 6 44 [some (aR 0), some (aI d), some (aI (kinR sh d)), some (aR (2 + k.toNat)), some (aI f), none] [] w := by
      intro h9
      refine j_goto (pc' := 73) dX11_toss_44 (by decide) ?_
      refine j_bipush (pc' := 75) (n := -15) dX11_toss_73 rfl (by decide) ?_
      refine j_xret ?_
      exact j_iret dX11_toss_75 rfl (rt_eq (by rw [hA, if_pos (by omega)]))
    have kU : (k = 0 ∨ k = 1 ∨ k = 3 ∨ k = 4 ∨ k = 7) → 0 < f → JT l m_Top_toss ad G [] (jZX ad G 68 1 6 (rt (some (aI ans)) w) (fun _ _ => False)) 68 1 6 41 [some (aR 0), some (aI d), some (aI (kinR sh d)), some (aR (2 + k.toNat)), some (aI f), none] w "java/lang/UnsupportedOperationException" := by
      intro h9 h10
      refine j_catch (hh := hhT) (E := "java/lang/UnsupportedOperationException") (i := 5) (pc' := 70) [⟨38, 44, 47, 329⟩, ⟨38, 44, 60, 339⟩] ⟨38, 44, 68, 366⟩ [] (gt_1 829 (by decide +kernel) (by decide +kernel)) rfl (fun z hz => by
      rcases List.mem_cons.mp hz with rfl | hz
      · exact ⟨by decide, "java/lang/IllegalArgumentException", gt_1 830 (by decide +kernel) (by decide +kernel), fun s h => h.2.1⟩
      · rw [List.mem_singleton.mp hz]; exact ⟨by decide, "java/lang/IllegalStateException", gt_1 831 (by decide +kernel) (by decide +kernel), fun s h => h.2.2⟩) (by decide) (by decide) (gt_1 832 (by decide +kernel) (by decide +kernel)) (ft_ps (ws := [.castable "java/lang/UnsupportedOperationException" "java/lang/UnsupportedOperationException"]) [892] (by decide +kernel) (by decide +kernel) _ List.mem_cons_self) dX11_toss_68 rfl (by decide) rfl ?_
      refine j_iload (pc' := 72) (z := f) dX11_toss_70 rfl rfl ?_
      refine j_xret ?_
      exact j_iret dX11_toss_72 rfl (rt_eq (by rw [hA, if_neg (by omega), if_neg (by omega), if_neg (by omega)]))
    rcases (show k = 0 ∨ k = 1 ∨ k = 2 ∨ k = 3 ∨ k = 4 ∨ k = 5 ∨ k = 6 ∨ k = 7 by omega) with hk | hk | hk | hk | hk | hk | hk | hk
    · have hq9 : 2 + k.toNat = 2 := by omega
      rw [hq9] at kn kU ⊢
      refine j_xcallO (pc' := 44) (q := 2) (as := [aI f]) (rest := []) (Mx := m_Part_fail) dX11_toss_41 rfl s_Top_363_Part s_Top_363_Part (c_Part_fail hl9 (by omega)) (by decide) hK.2.1 rfl rfl rfl rfl (fun X9 w9 hx9 => ?_) (fun r9 w9 hr9 => ?_)
      · obtain ⟨rfl, rfl, h10⟩ := hx9
        exact kU (by omega) h10
      · obtain ⟨rfl, rfl, h10⟩ := hr9
        exact kn (Or.inr h10)
    · have hq9 : 2 + k.toNat = 3 := by omega
      rw [hq9] at kn kU ⊢
      refine j_xcallO (pc' := 44) (q := 3) (as := [aI f]) (rest := []) (Mx := m_Part_fail) dX11_toss_41 rfl s_Top_363_Loose s_Top_363_Part (c_Part_fail hl9 (by omega)) (by decide) hK.2.2.1 rfl rfl rfl rfl (fun X9 w9 hx9 => ?_) (fun r9 w9 hr9 => ?_)
      · obtain ⟨rfl, rfl, h10⟩ := hx9
        exact kU (by omega) h10
      · obtain ⟨rfl, rfl, h10⟩ := hr9
        exact kn (Or.inr h10)
    · have hq9 : 2 + k.toNat = 4 := by omega
      rw [hq9] at kn kU ⊢
      refine j_xcallO (pc' := 44) (q := 4) (as := [aI f]) (rest := []) (Mx := m_Part_fail) dX11_toss_41 rfl s_Top_363_Tinny s_Top_363_Part (c_Tinny_fail hl9 (by omega)) (by decide) hK.2.2.2.1 rfl rfl rfl rfl (fun X9 w9 hx9 => ?_) (fun r9 w9 hr9 => ?_)
      · obtain ⟨rfl, rfl, h10⟩ := hx9
        refine j_catch (hh := hhT) (E := "java/lang/IllegalStateException") (i := 5) (pc' := 62) [⟨38, 44, 47, 329⟩] ⟨38, 44, 60, 339⟩ [⟨38, 44, 68, 366⟩] (gt_1 829 (by decide +kernel) (by decide +kernel)) rfl (fun z hz => by rw [List.mem_singleton.mp hz]; exact ⟨by decide, "java/lang/IllegalArgumentException", gt_1 830 (by decide +kernel) (by decide +kernel), fun s h => h.1⟩) (by decide) (by decide) (gt_1 831 (by decide +kernel) (by decide +kernel)) (ft_ps (ws := [.castable "java/lang/IllegalStateException" "java/lang/IllegalStateException"]) [876] (by decide +kernel) (by decide +kernel) _ List.mem_cons_self) dX11_toss_60 rfl (by decide) rfl ?_
        refine j_bipush (pc' := 64) (n := 100) dX11_toss_62 rfl (by decide) ?_
        refine j_iload (pc' := 66) (z := f) dX11_toss_64 rfl rfl ?_
        refine j_iadd (pc' := 67) dX11_toss_66 rfl ?_
        refine j_xret ?_
        exact j_iret dX11_toss_67 rfl (rt_eq (by rw [hA, if_neg (by omega), if_neg (by omega), if_pos (by omega)]))
      · obtain ⟨rfl, rfl, h10⟩ := hr9
        exact kn (Or.inr h10)
    · have hq9 : 2 + k.toNat = 5 := by omega
      rw [hq9] at kn kU ⊢
      refine j_xcallO (pc' := 44) (q := 5) (as := [aI f]) (rest := []) (Mx := m_Part_fail) dX11_toss_41 rfl s_Top_363_Frosty s_Top_363_Part (c_Part_fail hl9 (by omega)) (by decide) hK.2.2.2.2.1 rfl rfl rfl rfl (fun X9 w9 hx9 => ?_) (fun r9 w9 hr9 => ?_)
      · obtain ⟨rfl, rfl, h10⟩ := hx9
        exact kU (by omega) h10
      · obtain ⟨rfl, rfl, h10⟩ := hr9
        exact kn (Or.inr h10)
    · have hq9 : 2 + k.toNat = 6 := by omega
      rw [hq9] at kn kU ⊢
      refine j_xcallO (pc' := 44) (q := 6) (as := [aI f]) (rest := []) (Mx := m_Part_fail) dX11_toss_41 rfl s_Top_363_Heavy s_Top_363_Part (c_Part_fail hl9 (by omega)) (by decide) hK.2.2.2.2.2.1 rfl rfl rfl rfl (fun X9 w9 hx9 => ?_) (fun r9 w9 hr9 => ?_)
      · obtain ⟨rfl, rfl, h10⟩ := hx9
        exact kU (by omega) h10
      · obtain ⟨rfl, rfl, h10⟩ := hr9
        exact kn (Or.inr h10)
    · have hq9 : 2 + k.toNat = 7 := by omega
      rw [hq9] at kn kU ⊢
      refine j_xcallO (pc' := 44) (q := 7) (as := [aI f]) (rest := []) (Mx := m_Part_fail) dX11_toss_41 rfl s_Top_363_Doubled s_Top_363_Part (c_Doubled_fail hl9 (by omega)) (by decide) hK.2.2.2.2.2.2.1 rfl rfl rfl rfl (fun X9 w9 hx9 => ?_) (fun r9 w9 hr9 => ?_)
      · obtain ⟨rfl, rfl, h10⟩ := hx9
        refine j_catch (hh := hhT) (E := "java/lang/IllegalArgumentException") (i := 5) (pc' := 49) [] ⟨38, 44, 47, 329⟩ [⟨38, 44, 60, 339⟩, ⟨38, 44, 68, 366⟩] (gt_1 829 (by decide +kernel) (by decide +kernel)) rfl (fun z hz => absurd hz List.not_mem_nil) (by decide) (by decide) (gt_1 830 (by decide +kernel) (by decide +kernel)) (ft_ps (ws := [.castable "java/lang/IllegalArgumentException" "java/lang/IllegalArgumentException"]) [806] (by decide +kernel) (by decide +kernel) _ List.mem_cons_self) dX11_toss_47 rfl (by decide) rfl ?_
        refine j_sipush (pc' := 52) (n := 200) dX11_toss_49 rfl (by decide) ?_
        refine j_aload_n (pc' := 53) (z := 7) dX11_toss_52 rfl rfl ?_
        refine j_iload (pc' := 55) (z := f) dX11_toss_53 rfl rfl ?_
        refine j_callO (pc' := 58) (q := 7) (as := [aI f]) (rest := [aI 200]) (Mx := m_Part_price) dX11_toss_55 rfl s_Top_360_Doubled s_Top_360_Part (c_Doubled_price (by decide) hK.2.2.2.2.2.2.1 rfl) (by decide) hK.2.2.2.2.2.2.1 rfl rfl rfl rfl (jdet rfl ?_)
        refine j_iadd (pc' := 59) dX11_toss_58 rfl ?_
        refine j_xret ?_
        exact j_iret dX11_toss_59 rfl (rt_eq (by rw [hA, if_neg (by omega), if_pos (by omega), hk]; simp [price] <;> omega))
      · obtain ⟨rfl, rfl, h10⟩ := hr9
        exact kn (Or.inr h10)
    · have hq9 : 2 + k.toNat = 8 := by omega
      rw [hq9] at kn kU ⊢
      refine j_callO (pc' := 44) (q := 8) (as := [aI f]) (rest := []) (Mx := m_Part_fail) dX11_toss_41 rfl s_Top_363_Dead s_Top_363_Part c_Dead_fail (by decide) hK.2.2.2.2.2.2.2.1 rfl rfl rfl rfl (jdet (st' := []) rfl ?_)
      exact j_wide (k9 := 1) (n9 := 6) (by decide) (by decide) (kn (Or.inl hk))
    · have hq9 : 2 + k.toNat = 9 := by omega
      rw [hq9] at kn kU ⊢
      refine j_xcallO (pc' := 44) (q := 9) (as := [aI f]) (rest := []) (Mx := m_Part_fail) dX11_toss_41 rfl s_Top_363_Deep s_Top_363_Part (c_Part_fail hl9 (by omega)) (by decide) hK.2.2.2.2.2.2.2.2 rfl rfl rfl rfl (fun X9 w9 hx9 => ?_) (fun r9 w9 hr9 => ?_)
      · obtain ⟨rfl, rfl, h10⟩ := hx9
        exact kU (by omega) h10
      · obtain ⟨rfl, rfl, h10⟩ := hr9
        exact kn (Or.inr h10)
  · refine j_iload_n (pc' := 11) (z := (kinR sh d)) dX11_toss_10 rfl rfl ?_
    refine j_wide (k9 := 1) (n9 := 6) (by decide) (by decide) (j_xret ?_)
    exact j_iret dX11_toss_11 rfl (rt_eq (by unfold tossA; rw [if_neg h7]))
set_option maxRecDepth 100000 in
set_option maxHeartbeats 4000000 in
theorem c_Law_element {l : Launch} {w : AW} {D Di : Int → Int → Int} {n mi hi ni mj : Int} {sh E : Int → Int → Int} {d i : Int} {f0 : Int → Int} (hl9 : l.stackTraces = false) (hW : Comp w D n mi hi Di ni mj sh E) (hB : CarOK D n mi) (hI : CarOK Di ni mj) (hhi : hi = 0 ∨ hi = 1) (hsh : ShOK sh E) (hd : inI d) (hi9 : inI i) (ho : w 67 = eL 1 f0) : CallH l m_Law_element hhL 68 [aR 0, aI d, aI i, aR 67] w (rt (some (aI (elT sh d i))) (if elT sh d i = 0 then up w 67 (eL 1 (upi f0 0 (elV sh E d i))) else w)) := by
  have hO := hW.1
  refine CallH.of (L := [some (aR 0), some (aI d), some (aI i), some (aR 67), none]) rfl (Nat.le_of_ble_eq_true rfl) rfl (fun G ad => ?_)
  refine j_aload_n (pc' := 1) (z := 67) dL_element_0 rfl rfl ?_
  refine j_iconst (pc' := 2) dL_element_1 rfl ?_
  refine j_aload_n (pc' := 3) (z := 0) dL_element_2 rfl rfl ?_
  refine j_iload_n (pc' := 4) (z := d) dL_element_3 rfl rfl ?_
  refine j_iload_n (pc' := 5) (z := i) dL_element_4 rfl rfl ?_
  refine j_xcallV (pc' := 8) (q := 0) (as := [aI d, aI i]) (rest := [aI 0, aR 67]) dL_element_5 rfl s_Law_7 (c_Top_element hl9 hW hB hI hhi hsh hd hi9) (by omega) hO rfl rfl rfl rfl (fun X9 w9 hx9 => ?_) (fun r9 w9 hr9 => ?_)
  · obtain ⟨rfl, hx9⟩ := hx9
    rcases hx9 with ⟨rfl, h9⟩ | ⟨rfl, h9⟩
    · refine j_catch (hh := hhL) (E := "java/lang/IllegalArgumentException") (i := 4) (pc' := 14) [] ⟨0, 9, 12, 13⟩ [⟨0, 9, 16, 15⟩] (gt_1 947 (by decide +kernel) (by decide +kernel)) rfl (fun z hz => absurd hz List.not_mem_nil) (by decide) (by decide) (gt_1 948 (by decide +kernel) (by decide +kernel)) (ft_ps (ws := [.castable "java/lang/IllegalArgumentException" "java/lang/IllegalArgumentException"]) [806] (by decide +kernel) (by decide +kernel) _ List.mem_cons_self) dL_element_12 rfl (by decide) rfl ?_
      refine j_iconst (pc' := 15) dL_element_14 rfl ?_
      refine j_xret ?_
      exact j_iret dL_element_15 rfl ⟨by rw [h9], by rw [if_neg (by omega)]⟩
    · refine j_catch (hh := hhL) (E := "java/lang/IllegalStateException") (i := 4) (pc' := 18) [⟨0, 9, 12, 13⟩] ⟨0, 9, 16, 15⟩ [] (gt_1 947 (by decide +kernel) (by decide +kernel)) rfl (fun z hz => by rw [List.mem_singleton.mp hz]; exact ⟨by decide, "java/lang/IllegalArgumentException", gt_1 948 (by decide +kernel) (by decide +kernel), fun s h => h.1⟩) (by decide) (by decide) (gt_1 949 (by decide +kernel) (by decide +kernel)) (ft_ps (ws := [.castable "java/lang/IllegalStateException" "java/lang/IllegalStateException"]) [876] (by decide +kernel) (by decide +kernel) _ List.mem_cons_self) dL_element_16 rfl (by decide) rfl ?_
      refine j_iconst (pc' := 19) dL_element_18 rfl ?_
      refine j_xret ?_
      exact j_iret dL_element_19 rfl ⟨by rw [h9], by rw [if_neg (by omega)]⟩
  · obtain ⟨rfl, rfl, h9⟩ := hr9
    refine j_last (pc' := 9) (f := f0) (n := 1) dL_element_8 rfl (by omega) ho (by omega) (by decide) ?_
    refine j_goto (pc' := 20) dL_element_9 (by decide) ?_
    refine j_iconst (pc' := 21) dL_element_20 rfl ?_
    refine j_xret ?_
    exact j_iret dL_element_21 rfl ⟨by rw [h9], by rw [if_pos h9]⟩
