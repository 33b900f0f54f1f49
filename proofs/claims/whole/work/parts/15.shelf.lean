set_option maxRecDepth 100000 in
set_option maxHeartbeats 4000000 in
theorem c_within {l : Launch} {w : AW} {v a b : Int} (hv : inI v) (ha : inI a) (hb : inI b) : Call l m_Top_within false 68 68 [aI v, aI a, aI b] w (rt (some (aB (a ≤ v ∧ v ≤ b))) w) := by
  refine Call.of (L := [some (aI v), some (aI a), some (aI b)]) rfl (Nat.le_of_ble_eq_true rfl) rfl (fun G ad => ?_)
  refine j_iload_n (pc' := 1) (z := v) dX11_within_0 rfl rfl ?_
  refine j_iload_n (pc' := 2) (z := a) dX11_within_1 rfl rfl ?_
  refine j_icmp_lt (tgt := 14) (pc' := 5) dX11_within_2 (by decide) rfl (by omega) (by omega) (fun h2 => ?_) (fun h2 => ?_)
  · refine j_iconst (pc' := 15) dX11_within_14 rfl ?_
    exact j_zret0 dX11_within_15 rfl (rt_b0 (by omega))
  · refine j_iload_n (pc' := 6) (z := v) dX11_within_5 rfl rfl ?_
    refine j_iload_n (pc' := 7) (z := b) dX11_within_6 rfl rfl ?_
    refine j_icmp_gt (tgt := 14) (pc' := 10) dX11_within_7 (by decide) rfl (by omega) (by omega) (fun h7 => ?_) (fun h7 => ?_)
    · refine j_iconst (pc' := 15) dX11_within_14 rfl ?_
      exact j_zret0 dX11_within_15 rfl (rt_b0 (by omega))
    · refine j_iconst (pc' := 11) dX11_within_10 rfl ?_
      refine j_goto (pc' := 15) dX11_within_11 (by decide) ?_
      exact j_zret1 dX11_within_15 rfl (rt_b1 (by omega))
set_option maxRecDepth 100000 in
set_option maxHeartbeats 4000000 in
theorem c_isEither {l : Launch} {w : AW} {v : Int} (hv : inI v) : Call l m_Top_isEither false 68 68 [aI v] w (rt (some (aB (0 ≤ v ∧ v ≤ 1))) w) := by
  refine Call.of (L := [some (aI v)]) rfl (Nat.le_of_ble_eq_true rfl) rfl (fun G ad => ?_)
  refine j_iload_n (pc' := 1) (z := v) dX11_isEither_0 rfl rfl ?_
  refine j_iconst (pc' := 2) dX11_isEither_1 rfl ?_
  refine j_iconst (pc' := 3) dX11_isEither_2 rfl ?_
  refine j_callS (pc' := 6) (as := [aI v, aI 0, aI 1]) (rest := []) dX11_isEither_3 rfl s_Top_126 (c_within (by omega) (by omega) (by omega)) rfl rfl rfl (jdet (st' := [aB (0 ≤ v ∧ v ≤ 1)]) rfl ?_)
  exact j_zret dX11_isEither_6 rfl (rt_bb (by exact Iff.rfl))
set_option maxRecDepth 100000 in
set_option maxHeartbeats 4000000 in
theorem c_isShelf {l : Launch} {w : AW} {v : Int} (hv : inI v) : Call l m_Top_isShelf false 68 68 [aI v] w (rt (some (aB (0 ≤ v ∧ v ≤ 7))) w) := by
  refine Call.of (L := [some (aI v)]) rfl (Nat.le_of_ble_eq_true rfl) rfl (fun G ad => ?_)
  refine j_iload_n (pc' := 1) (z := v) dX11_isShelf_0 rfl rfl ?_
  refine j_iconst (pc' := 2) dX11_isShelf_1 rfl ?_
  refine j_bipush (pc' := 4) dX11_isShelf_2 rfl (by decide) ?_
  refine j_callS (pc' := 7) (as := [aI v, aI 0, aI 7]) (rest := []) dX11_isShelf_4 rfl s_Top_126 (c_within (by omega) (by omega) (by omega)) rfl rfl rfl (jdet (st' := [aB (0 ≤ v ∧ v ≤ 7)]) rfl ?_)
  exact j_zret dX11_isShelf_7 rfl (rt_bb (by exact Iff.rfl))
set_option maxRecDepth 100000 in
set_option maxHeartbeats 4000000 in
theorem c_isSeat {l : Launch} {w : AW} {v : Int} (hv : inI v) : Call l m_Top_isSeat false 68 68 [aI v] w (rt (some (aB (0 ≤ v ∧ v ≤ 3))) w) := by
  refine Call.of (L := [some (aI v)]) rfl (Nat.le_of_ble_eq_true rfl) rfl (fun G ad => ?_)
  refine j_iload_n (pc' := 1) (z := v) dX11_isSeat_0 rfl rfl ?_
  refine j_iconst (pc' := 2) dX11_isSeat_1 rfl ?_
  refine j_iconst (pc' := 3) dX11_isSeat_2 rfl ?_
  refine j_callS (pc' := 6) (as := [aI v, aI 0, aI 3]) (rest := []) dX11_isSeat_3 rfl s_Top_126 (c_within (by omega) (by omega) (by omega)) rfl rfl rfl (jdet (st' := [aB (0 ≤ v ∧ v ≤ 3)]) rfl ?_)
  exact j_zret dX11_isSeat_6 rfl (rt_bb (by exact Iff.rfl))
set_option maxRecDepth 100000 in
set_option maxHeartbeats 4000000 in
theorem c_isPace {l : Launch} {w : AW} {v : Int} (hv : inI v) : Call l m_Top_isPace false 68 68 [aI v] w (rt (some (aB (0 ≤ v ∧ v ≤ 99))) w) := by
  refine Call.of (L := [some (aI v)]) rfl (Nat.le_of_ble_eq_true rfl) rfl (fun G ad => ?_)
  refine j_iload_n (pc' := 1) (z := v) dX11_isPace_0 rfl rfl ?_
  refine j_iconst (pc' := 2) dX11_isPace_1 rfl ?_
  refine j_bipush (pc' := 4) dX11_isPace_2 rfl (by decide) ?_
  refine j_callS (pc' := 7) (as := [aI v, aI 0, aI 99]) (rest := []) dX11_isPace_4 rfl s_Top_126 (c_within (by omega) (by omega) (by omega)) rfl rfl rfl (jdet (st' := [aB (0 ≤ v ∧ v ≤ 99)]) rfl ?_)
  exact j_zret dX11_isPace_7 rfl (rt_bb (by exact Iff.rfl))
set_option maxRecDepth 100000 in
set_option maxHeartbeats 4000000 in
theorem c_ofLongs {l : Launch} {w : AW} {v : Int} (hv : inI v) : Call l m_Top_ofLongs false 68 68 [aI v] w (rt (some (aL (-1000000000 + v))) w) := by
  refine Call.of (L := [some (aI v)]) rfl (Nat.le_of_ble_eq_true rfl) rfl (fun G ad => ?_)
  refine j_ldc2 (pc' := 3) (n := -1000000000) dX11_ofLongs_0 rfl k_Top_368 (by decide) ?_
  refine j_iload_n (pc' := 4) (z := v) dX11_ofLongs_3 rfl rfl ?_
  refine j_i2l (pc' := 5) dX11_ofLongs_4 rfl (by omega) ?_
  refine j_ladd (pc' := 6) dX11_ofLongs_5 rfl ?_
  exact j_lret dX11_ofLongs_6 rfl (rt_eqL (by omega))
set_option maxRecDepth 100000 in
set_option maxHeartbeats 4000000 in
theorem c_nextSeed {l : Launch} {w : AW} {v : Int}  : Call l m_Top_nextSeed false 68 68 [aI v] w (rt (some (aI (v * 1103515245 + 12345))) w) := by
  refine Call.of (L := [some (aI v)]) rfl (Nat.le_of_ble_eq_true rfl) rfl (fun G ad => ?_)
  refine j_iload_n (pc' := 1) (z := v) dX11_nextSeed_0 rfl rfl ?_
  refine j_ldcw (pc' := 4) (n := 1103515245) dX11_nextSeed_1 rfl k_Top_305 (by decide) ?_
  refine j_imul (pc' := 5) dX11_nextSeed_4 rfl ?_
  refine j_sipush (pc' := 8) dX11_nextSeed_5 rfl (by decide) ?_
  refine j_iadd (pc' := 9) dX11_nextSeed_8 rfl ?_
  exact j_iret dX11_nextSeed_9 rfl (rt_eq (by omega))
set_option maxRecDepth 100000 in
set_option maxHeartbeats 4000000 in
theorem c_drawn {l : Launch} {w : AW} {v : Int}  : Call l m_Top_drawn false 68 68 [aI v] w (rt (some (aI (v % 2147483648 / 65536))) w) := by
  refine Call.of (L := [some (aI v)]) rfl (Nat.le_of_ble_eq_true rfl) rfl (fun G ad => ?_)
  refine j_iload_n (pc' := 1) (z := v) dX11_drawn_0 rfl rfl ?_
  refine j_ldcw (pc' := 4) (n := 2147483647) dX11_drawn_1 rfl k_Top_306 (by decide) ?_
  refine j_imask (pc' := 5) 31 dX11_drawn_4 rfl (by decide) rfl ?_
  refine j_bipush (pc' := 7) dX11_drawn_5 rfl (by decide) ?_
  refine j_ishr (pc' := 8) dX11_drawn_7 rfl (by omega) (by omega) ?_
  exact j_iret dX11_drawn_8 rfl (rt_eq (by rfl))
set_option maxRecDepth 100000 in
set_option maxHeartbeats 4000000 in
theorem c_Shelf_clear {l : Launch} {w : AW} {q : Nat} {ct k f so sz : Int} {E : Int → Int}  (hS : ShelfAt w q ct k f so sz E) (hK : ShelfOK ct k f so sz E) (hq : q + 2 ≤ 68)  : Call l m_Shelf_clear false 68 68 [aR q] w (rt none (up w q (eO 8 [aI 0, aI k, aI f, aI so, aI 0, aR (q + 1)]))) := by
  obtain ⟨hO, hE⟩ := hS
  obtain ⟨hct, hk, hf, hso, hsz, hEb⟩ := hK
  refine Call.of (L := [some (aR q)]) rfl (Nat.le_of_ble_eq_true rfl) rfl (fun G ad => ?_)
  refine j_aload_n (pc' := 1) (z := q) dX9_clear_0 rfl rfl ?_
  refine j_iconst (pc' := 2) dX9_clear_1 rfl ?_
  refine j_putI (pc' := 5) dX9_clear_2 rfl p_Shelf_11 (by omega) hO (Nat.le_of_ble_eq_true rfl) ?_
  refine j_w (w' := up w q (eO 8 [aI 0, aI k, aI f, aI so, aI sz, aR (q + 1)])) rfl ?_
  refine j_aload_n (pc' := 6) (z := q) dX9_clear_5 rfl rfl ?_
  refine j_iconst (pc' := 7) dX9_clear_6 rfl ?_
  refine j_putI (pc' := 10) dX9_clear_7 rfl p_Shelf_24 (by omega) up_s (Nat.le_of_ble_eq_true rfl) ?_
  refine j_w (w' := up w q (eO 8 [aI 0, aI k, aI f, aI so, aI 0, aR (q + 1)])) (by funext j9; simp only [up]; (repeat' split) <;> first | rfl | (exfalso; omega)) ?_
  exact j_vret dX9_clear_10 rfl rt_rfl
set_option maxRecDepth 100000 in
set_option maxHeartbeats 4000000 in
theorem c_Shelf_takeKind {l : Launch} {w : AW} {q : Nat} {ct k f so sz : Int} {E : Int → Int} {a b : Int} (hS : ShelfAt w q ct k f so sz E) (hK : ShelfOK ct k f so sz E) (hq : q + 2 ≤ 68)  : Call l m_Shelf_takeKind false 68 68 [aR q, aI a, aI b] w (rt none (up w q (eO 8 [aI 1, aI a, aI b, aI so, aI 0, aR (q + 1)]))) := by
  obtain ⟨hO, hE⟩ := hS
  obtain ⟨hct, hk, hf, hso, hsz, hEb⟩ := hK
  refine Call.of (L := [some (aR q), some (aI a), some (aI b)]) rfl (Nat.le_of_ble_eq_true rfl) rfl (fun G ad => ?_)
  refine j_aload_n (pc' := 1) (z := q) dX9_takeKind_0 rfl rfl ?_
  refine j_iconst (pc' := 2) dX9_takeKind_1 rfl ?_
  refine j_putI (pc' := 5) dX9_takeKind_2 rfl p_Shelf_11 (by omega) hO (Nat.le_of_ble_eq_true rfl) ?_
  refine j_w (w' := up w q (eO 8 [aI 1, aI k, aI f, aI so, aI sz, aR (q + 1)])) rfl ?_
  refine j_aload_n (pc' := 6) (z := q) dX9_takeKind_5 rfl rfl ?_
  refine j_iload_n (pc' := 7) (z := a) dX9_takeKind_6 rfl rfl ?_
  refine j_putI (pc' := 10) dX9_takeKind_7 rfl p_Shelf_15 (by omega) up_s (Nat.le_of_ble_eq_true rfl) ?_
  refine j_w (w' := up w q (eO 8 [aI 1, aI a, aI f, aI so, aI sz, aR (q + 1)])) (by funext j9; simp only [up]; (repeat' split) <;> first | rfl | (exfalso; omega)) ?_
  refine j_aload_n (pc' := 11) (z := q) dX9_takeKind_10 rfl rfl ?_
  refine j_iload_n (pc' := 12) (z := b) dX9_takeKind_11 rfl rfl ?_
  refine j_putI (pc' := 15) dX9_takeKind_12 rfl p_Shelf_18 (by omega) up_s (Nat.le_of_ble_eq_true rfl) ?_
  refine j_w (w' := up w q (eO 8 [aI 1, aI a, aI b, aI so, aI sz, aR (q + 1)])) (by funext j9; simp only [up]; (repeat' split) <;> first | rfl | (exfalso; omega)) ?_
  refine j_aload_n (pc' := 16) (z := q) dX9_takeKind_15 rfl rfl ?_
  refine j_iconst (pc' := 17) dX9_takeKind_16 rfl ?_
  refine j_putI (pc' := 20) dX9_takeKind_17 rfl p_Shelf_24 (by omega) up_s (Nat.le_of_ble_eq_true rfl) ?_
  refine j_w (w' := up w q (eO 8 [aI 1, aI a, aI b, aI so, aI 0, aR (q + 1)])) (by funext j9; simp only [up]; (repeat' split) <;> first | rfl | (exfalso; omega)) ?_
  exact j_vret dX9_takeKind_20 rfl rt_rfl
set_option maxRecDepth 100000 in
set_option maxHeartbeats 4000000 in
theorem c_Shelf_takeRow {l : Launch} {w : AW} {q : Nat} {ct k f so sz : Int} {E : Int → Int} {a b : Int} (hS : ShelfAt w q ct k f so sz E) (hK : ShelfOK ct k f so sz E) (hq : q + 2 ≤ 68)  : Call l m_Shelf_takeRow false 68 68 [aR q, aI a, aI b] w (rt none (up (up w q (eO 8 [aI 2, aI k, aI f, aI a, aI b, aR (q + 1)])) (q + 1) (eI 100 (zer E 100)))) := by
  obtain ⟨hO, hE⟩ := hS
  obtain ⟨hct, hk, hf, hso, hsz, hEb⟩ := hK
  refine Call.of (L := [some (aR q), some (aI a), some (aI b), none]) rfl (Nat.le_of_ble_eq_true rfl) rfl (fun G ad => ?_)
  refine j_aload_n (pc' := 1) (z := q) dX9_takeRow_0 rfl rfl ?_
  refine j_iconst (pc' := 2) dX9_takeRow_1 rfl ?_
  refine j_putI (pc' := 5) dX9_takeRow_2 rfl p_Shelf_11 (by omega) hO (Nat.le_of_ble_eq_true rfl) ?_
  refine j_w (w' := up w q (eO 8 [aI 2, aI k, aI f, aI so, aI sz, aR (q + 1)])) rfl ?_
  refine j_aload_n (pc' := 6) (z := q) dX9_takeRow_5 rfl rfl ?_
  refine j_iload_n (pc' := 7) (z := a) dX9_takeRow_6 rfl rfl ?_
  refine j_putI (pc' := 10) dX9_takeRow_7 rfl p_Shelf_21 (by omega) up_s (Nat.le_of_ble_eq_true rfl) ?_
  refine j_w (w' := up w q (eO 8 [aI 2, aI k, aI f, aI a, aI sz, aR (q + 1)])) (by funext j9; simp only [up]; (repeat' split) <;> first | rfl | (exfalso; omega)) ?_
  refine j_aload_n (pc' := 11) (z := q) dX9_takeRow_10 rfl rfl ?_
  refine j_iload_n (pc' := 12) (z := b) dX9_takeRow_11 rfl rfl ?_
  refine j_putI (pc' := 15) dX9_takeRow_12 rfl p_Shelf_24 (by omega) up_s (Nat.le_of_ble_eq_true rfl) ?_
  refine j_w (w' := up w q (eO 8 [aI 2, aI k, aI f, aI a, aI b, aR (q + 1)])) (by funext j9; simp only [up]; (repeat' split) <;> first | rfl | (exfalso; omega)) ?_
  refine j_iconst (pc' := 16) dX9_takeRow_15 rfl ?_
  refine j_istore_n (pc' := 17) (L' := [some (aR q), some (aI a), some (aI b), some (aI 0)]) dX9_takeRow_16 rfl (by decide) rfl ?_
  have lp17 : ∀ (k9 : Nat) (i : Int), (0 ≤ i ∧ i ≤ 100) → ((100 - i).toNat) = k9 → J l m_Shelf_takeRow ad G [] false (jZ ad G false 68 m_Shelf_takeRow.2.2.2.2.cells m_Shelf_takeRow.2.2.2.2.slots (rt none (up (up w q (eO 8 [aI 2, aI k, aI f, aI a, aI b, aR (q + 1)])) (q + 1) (eI 100 (zer E 100))))) 68 0 0 17 [some (aR q), some (aI a), some (aI b), some (aI i)] [] (up (up w q (eO 8 [aI 2, aI k, aI f, aI a, aI b, aR (q + 1)])) (q + 1) (eI 100 (zer E i))) := by
    intro k9
    induction k9 using Nat.strongRecOn with
    | _ k9 ih17 =>
      intro i hi hk17
      refine j_iload_n (pc' := 18) (z := i) dX9_takeRow_17 rfl rfl ?_
      refine j_aload_n (pc' := 19) (z := q) dX9_takeRow_18 rfl rfl ?_
      refine j_get (pc' := 22) (v := aR (q + 1)) dX9_takeRow_19 rfl f_Shelf_27 (by omega) ((up_n (by omega)).trans up_s) rfl ?_
      refine j_alen (pc' := 23) dX9_takeRow_22 rfl (by omega) up_s ?_
      refine j_st (st' := [aI 100, aI i]) rfl ?_
      refine j_icmp_ge (tgt := 39) (pc' := 26) dX9_takeRow_23 (by decide) rfl (by omega) (by omega) (fun h23 => ?_) (fun h23 => ?_)
      · exact j_vret dX9_takeRow_39 rfl (rt_w (by rw [show i = 100 by omega]))
      · refine j_aload_n (pc' := 27) (z := q) dX9_takeRow_26 rfl rfl ?_
        refine j_get (pc' := 30) (v := aR (q + 1)) dX9_takeRow_27 rfl f_Shelf_27 (by omega) ((up_n (by omega)).trans up_s) rfl ?_
        refine j_iload_n (pc' := 31) (z := i) dX9_takeRow_30 rfl rfl ?_
        refine j_iconst (pc' := 32) dX9_takeRow_31 rfl ?_
        refine j_iast (pc' := 33) dX9_takeRow_32 rfl (by omega) up_s (by omega) (by decide) ?_
        refine j_w (w' := up (up w q (eO 8 [aI 2, aI k, aI f, aI a, aI b, aR (q + 1)])) (q + 1) (eI 100 (upi (zer E i) i 0))) (by funext j9; simp only [up]; (repeat' split) <;> first | rfl | (exfalso; omega)) ?_
        refine j_iinc (pc' := 36) (z := i) (L' := [some (aR q), some (aI a), some (aI b), some (aI (i + 1))]) dX9_takeRow_33 rfl (by decide) rfl rfl rfl ?_
        refine j_goto (pc' := 17) dX9_takeRow_36 (by decide) ?_
        refine j_w (w' := up (up w q (eO 8 [aI 2, aI k, aI f, aI a, aI b, aR (q + 1)])) (q + 1) (eI 100 (zer E (i + 1)))) (by first | rw [zer_s (by omega)] | (rw [zer_0]; funext j9; simp only [up]; (repeat' split) <;> first | rfl | (subst_vars; assumption) | (exfalso; omega))) ?_
        exact ih17 _ (by omega) (i + 1) (by omega) rfl
  refine j_w (w' := up (up w q (eO 8 [aI 2, aI k, aI f, aI a, aI b, aR (q + 1)])) (q + 1) (eI 100 (zer E 0))) (by first | rw [zer_s (by omega)] | (rw [zer_0]; funext j9; simp only [up]; (repeat' split) <;> first | rfl | (subst_vars; assumption) | (exfalso; omega))) ?_
  exact lp17 _ 0 (by omega) rfl
set_option maxRecDepth 100000 in
set_option maxHeartbeats 4000000 in
theorem c_Shelf_isEmpty {l : Launch} {w : AW} {q : Nat} {ct k f so sz : Int} {E : Int → Int}  (hS : ShelfAt w q ct k f so sz E) (hK : ShelfOK ct k f so sz E) (hq : q + 2 ≤ 68)  : Call l m_Shelf_isEmpty false 68 68 [aR q] w (rt (some (aB (ct = 0))) w) := by
  obtain ⟨hO, hE⟩ := hS
  obtain ⟨hct, hk, hf, hso, hsz, hEb⟩ := hK
  refine Call.of (L := [some (aR q)]) rfl (Nat.le_of_ble_eq_true rfl) rfl (fun G ad => ?_)
  refine j_aload_n (pc' := 1) (z := q) dX9_isEmpty_0 rfl rfl ?_
  refine j_get (pc' := 4) (v := aI ct) dX9_isEmpty_1 rfl f_Shelf_11 (by omega) hO rfl ?_
  refine j_if_ne (tgt := 11) (pc' := 7) dX9_isEmpty_4 (by decide) rfl (by omega) (fun h4 => ?_) (fun h4 => ?_)
  · refine j_iconst (pc' := 12) dX9_isEmpty_11 rfl ?_
    exact j_zret0 dX9_isEmpty_12 rfl (rt_b0 (by omega))
  · refine j_iconst (pc' := 8) dX9_isEmpty_7 rfl ?_
    refine j_goto (pc' := 12) dX9_isEmpty_8 (by decide) ?_
    exact j_zret1 dX9_isEmpty_12 rfl (rt_b1 (by omega))
set_option maxRecDepth 100000 in
set_option maxHeartbeats 4000000 in
theorem c_Shelf_refusalAsKind {l : Launch} {w : AW} {q : Nat} {ct k f so sz : Int} {E : Int → Int}  (hS : ShelfAt w q ct k f so sz E) (hK : ShelfOK ct k f so sz E) (hq : q + 2 ≤ 68)  : Call l m_Shelf_refusalAsKind false 68 68 [aR q] w (rt (some (aI (refK ct))) w) := by
  obtain ⟨hO, hE⟩ := hS
  obtain ⟨hct, hk, hf, hso, hsz, hEb⟩ := hK
  refine Call.of (L := [some (aR q)]) rfl (Nat.le_of_ble_eq_true rfl) rfl (fun G ad => ?_)
  refine j_aload_n (pc' := 1) (z := q) dX9_refusalAsKind_0 rfl rfl ?_
  refine j_get (pc' := 4) (v := aI ct) dX9_refusalAsKind_1 rfl f_Shelf_11 (by omega) hO rfl ?_
  refine j_if_ne (tgt := 12) (pc' := 7) dX9_refusalAsKind_4 (by decide) rfl (by omega) (fun h4 => ?_) (fun h4 => ?_)
  · refine j_aload_n (pc' := 13) (z := q) dX9_refusalAsKind_12 rfl rfl ?_
    refine j_get (pc' := 16) (v := aI ct) dX9_refusalAsKind_13 rfl f_Shelf_11 (by omega) hO rfl ?_
    refine j_iconst (pc' := 17) dX9_refusalAsKind_16 rfl ?_
    refine j_icmp_ne (tgt := 24) (pc' := 20) dX9_refusalAsKind_17 (by decide) rfl (by omega) (by omega) (fun h17 => ?_) (fun h17 => ?_)
    · refine j_bipush (pc' := 26) dX9_refusalAsKind_24 rfl (by decide) ?_
      exact j_iret dX9_refusalAsKind_26 rfl (rt_eq (by unfold refK; (repeat' split) <;> omega))
    · refine j_iconst (pc' := 21) dX9_refusalAsKind_20 rfl ?_
      refine j_goto (pc' := 26) dX9_refusalAsKind_21 (by decide) ?_
      exact j_iret dX9_refusalAsKind_26 rfl (rt_eq (by unfold refK; (repeat' split) <;> omega))
  · refine j_bipush (pc' := 9) dX9_refusalAsKind_7 rfl (by decide) ?_
    refine j_goto (pc' := 26) dX9_refusalAsKind_9 (by decide) ?_
    exact j_iret dX9_refusalAsKind_26 rfl (rt_eq (by unfold refK; (repeat' split) <;> omega))
set_option maxRecDepth 100000 in
set_option maxHeartbeats 4000000 in
theorem c_Shelf_refusalAsRow {l : Launch} {w : AW} {q : Nat} {ct k f so sz : Int} {E : Int → Int}  (hS : ShelfAt w q ct k f so sz E) (hK : ShelfOK ct k f so sz E) (hq : q + 2 ≤ 68)  : Call l m_Shelf_refusalAsRow false 68 68 [aR q] w (rt (some (aI (refR ct))) w) := by
  obtain ⟨hO, hE⟩ := hS
  obtain ⟨hct, hk, hf, hso, hsz, hEb⟩ := hK
  refine Call.of (L := [some (aR q)]) rfl (Nat.le_of_ble_eq_true rfl) rfl (fun G ad => ?_)
  refine j_aload_n (pc' := 1) (z := q) dX9_refusalAsRow_0 rfl rfl ?_
  refine j_get (pc' := 4) (v := aI ct) dX9_refusalAsRow_1 rfl f_Shelf_11 (by omega) hO rfl ?_
  refine j_if_ne (tgt := 12) (pc' := 7) dX9_refusalAsRow_4 (by decide) rfl (by omega) (fun h4 => ?_) (fun h4 => ?_)
  · refine j_aload_n (pc' := 13) (z := q) dX9_refusalAsRow_12 rfl rfl ?_
    refine j_get (pc' := 16) (v := aI ct) dX9_refusalAsRow_13 rfl f_Shelf_11 (by omega) hO rfl ?_
    refine j_iconst (pc' := 17) dX9_refusalAsRow_16 rfl ?_
    refine j_icmp_ne (tgt := 24) (pc' := 20) dX9_refusalAsRow_17 (by decide) rfl (by omega) (by omega) (fun h17 => ?_) (fun h17 => ?_)
    · refine j_bipush (pc' := 26) dX9_refusalAsRow_24 rfl (by decide) ?_
      exact j_iret dX9_refusalAsRow_26 rfl (rt_eq (by unfold refR; (repeat' split) <;> omega))
    · refine j_iconst (pc' := 21) dX9_refusalAsRow_20 rfl ?_
      refine j_goto (pc' := 26) dX9_refusalAsRow_21 (by decide) ?_
      exact j_iret dX9_refusalAsRow_26 rfl (rt_eq (by unfold refR; (repeat' split) <;> omega))
  · refine j_bipush (pc' := 9) dX9_refusalAsRow_7 rfl (by decide) ?_
    refine j_goto (pc' := 26) dX9_refusalAsRow_9 (by decide) ?_
    exact j_iret dX9_refusalAsRow_26 rfl (rt_eq (by unfold refR; (repeat' split) <;> omega))
set_option maxRecDepth 100000 in
set_option maxHeartbeats 4000000 in
theorem c_Shelf_hasPlace {l : Launch} {w : AW} {q : Nat} {ct k f so sz : Int} {E : Int → Int} {i : Int} (hS : ShelfAt w q ct k f so sz E) (hK : ShelfOK ct k f so sz E) (hq : q + 2 ≤ 68) (hi : inI i) : Call l m_Shelf_hasPlace false 68 68 [aR q, aI i] w (rt (some (aB (0 ≤ i ∧ i < sz))) w) := by
  obtain ⟨hO, hE⟩ := hS
  obtain ⟨hct, hk, hf, hso, hsz, hEb⟩ := hK
  refine Call.of (L := [some (aR q), some (aI i)]) rfl (Nat.le_of_ble_eq_true rfl) rfl (fun G ad => ?_)
  refine j_iload_n (pc' := 1) (z := i) dX9_hasPlace_0 rfl rfl ?_
  refine j_if_lt (tgt := 16) (pc' := 4) dX9_hasPlace_1 (by decide) rfl (by omega) (fun h1 => ?_) (fun h1 => ?_)
  · refine j_iconst (pc' := 17) dX9_hasPlace_16 rfl ?_
    exact j_zret0 dX9_hasPlace_17 rfl (rt_b0 (by omega))
  · refine j_iload_n (pc' := 5) (z := i) dX9_hasPlace_4 rfl rfl ?_
    refine j_aload_n (pc' := 6) (z := q) dX9_hasPlace_5 rfl rfl ?_
    refine j_get (pc' := 9) (v := aI sz) dX9_hasPlace_6 rfl f_Shelf_24 (by omega) hO rfl ?_
    refine j_icmp_ge (tgt := 16) (pc' := 12) dX9_hasPlace_9 (by decide) rfl (by omega) (by omega) (fun h9 => ?_) (fun h9 => ?_)
    · refine j_iconst (pc' := 17) dX9_hasPlace_16 rfl ?_
      exact j_zret0 dX9_hasPlace_17 rfl (rt_b0 (by omega))
    · refine j_iconst (pc' := 13) dX9_hasPlace_12 rfl ?_
      refine j_goto (pc' := 17) dX9_hasPlace_13 (by decide) ?_
      exact j_zret1 dX9_hasPlace_17 rfl (rt_b1 (by omega))
set_option maxRecDepth 100000 in
set_option maxHeartbeats 4000000 in
theorem c_Shelf_hasStretch {l : Launch} {w : AW} {q : Nat} {ct k f so sz : Int} {E : Int → Int} {a b : Int} (hS : ShelfAt w q ct k f so sz E) (hK : ShelfOK ct k f so sz E) (hq : q + 2 ≤ 68) (ha : inI a) (hb : inI b) : Call l m_Shelf_hasStretch false 68 68 [aR q, aI a, aI b] w (rt (some (aB (0 ≤ a ∧ 0 ≤ b ∧ a ≤ sz ∧ b ≤ sz - a))) w) := by
  obtain ⟨hO, hE⟩ := hS
  obtain ⟨hct, hk, hf, hso, hsz, hEb⟩ := hK
  refine Call.of (L := [some (aR q), some (aI a), some (aI b)]) rfl (Nat.le_of_ble_eq_true rfl) rfl (fun G ad => ?_)
  refine j_iload_n (pc' := 1) (z := a) dX9_hasStretch_0 rfl rfl ?_
  refine j_if_lt (tgt := 30) (pc' := 4) dX9_hasStretch_1 (by decide) rfl (by omega) (fun h1 => ?_) (fun h1 => ?_)
  · refine j_iconst (pc' := 31) dX9_hasStretch_30 rfl ?_
    exact j_zret0 dX9_hasStretch_31 rfl (rt_b0 (by omega))
  · refine j_iload_n (pc' := 5) (z := b) dX9_hasStretch_4 rfl rfl ?_
    refine j_if_lt (tgt := 30) (pc' := 8) dX9_hasStretch_5 (by decide) rfl (by omega) (fun h5 => ?_) (fun h5 => ?_)
    · refine j_iconst (pc' := 31) dX9_hasStretch_30 rfl ?_
      exact j_zret0 dX9_hasStretch_31 rfl (rt_b0 (by omega))
    · refine j_iload_n (pc' := 9) (z := a) dX9_hasStretch_8 rfl rfl ?_
      refine j_aload_n (pc' := 10) (z := q) dX9_hasStretch_9 rfl rfl ?_
      refine j_get (pc' := 13) (v := aI sz) dX9_hasStretch_10 rfl f_Shelf_24 (by omega) hO rfl ?_
      refine j_icmp_gt (tgt := 30) (pc' := 16) dX9_hasStretch_13 (by decide) rfl (by omega) (by omega) (fun h13 => ?_) (fun h13 => ?_)
      · refine j_iconst (pc' := 31) dX9_hasStretch_30 rfl ?_
        exact j_zret0 dX9_hasStretch_31 rfl (rt_b0 (by omega))
      · refine j_iload_n (pc' := 17) (z := b) dX9_hasStretch_16 rfl rfl ?_
        refine j_aload_n (pc' := 18) (z := q) dX9_hasStretch_17 rfl rfl ?_
        refine j_get (pc' := 21) (v := aI sz) dX9_hasStretch_18 rfl f_Shelf_24 (by omega) hO rfl ?_
        refine j_iload_n (pc' := 22) (z := a) dX9_hasStretch_21 rfl rfl ?_
        refine j_isub (pc' := 23) dX9_hasStretch_22 rfl ?_
        refine j_icmp_gt (tgt := 30) (pc' := 26) dX9_hasStretch_23 (by decide) rfl (by omega) (by omega) (fun h23 => ?_) (fun h23 => ?_)
        · refine j_iconst (pc' := 31) dX9_hasStretch_30 rfl ?_
          exact j_zret0 dX9_hasStretch_31 rfl (rt_b0 (by omega))
        · refine j_iconst (pc' := 27) dX9_hasStretch_26 rfl ?_
          refine j_goto (pc' := 31) dX9_hasStretch_27 (by decide) ?_
          exact j_zret1 dX9_hasStretch_31 rfl (rt_b1 (by omega))
set_option maxRecDepth 100000 in
set_option maxHeartbeats 4000000 in
theorem c_Shelf_store {l : Launch} {w : AW} {q : Nat} {ct k f so sz : Int} {E : Int → Int} {i v : Int} (hS : ShelfAt w q ct k f so sz E) (hK : ShelfOK ct k f so sz E) (hq : q + 2 ≤ 68) (hi : 0 ≤ i ∧ i < sz) : Call l m_Shelf_store false 68 68 [aR q, aI i, aI v] w (rt none (up w (q + 1) (eI 100 (upi E i (nar so v))))) := by
  obtain ⟨hO, hE⟩ := hS
  obtain ⟨hct, hk, hf, hso, hsz, hEb⟩ := hK
  refine Call.of (L := [some (aR q), some (aI i), some (aI v)]) rfl (Nat.le_of_ble_eq_true rfl) rfl (fun G ad => ?_)
  refine j_aload_n (pc' := 1) (z := q) dX9_store_0 rfl rfl ?_
  refine j_iload_n (pc' := 2) (z := i) dX9_store_1 rfl rfl ?_
  refine j_callV (pc' := 5) (as := [aI i]) (rest := []) dX9_store_2 rfl s_Shelf_31 (c_Shelf_hasPlace ⟨hO, hE⟩ ⟨hct, hk, hf, hso, hsz, hEb⟩ hq (by omega)) (by omega) hO rfl rfl rfl rfl (jdet (st' := [aB (0 ≤ i ∧ i < sz)]) rfl ?_)
  refine j_ifb_eq (tgt := 40) (pc' := 8) dX9_store_5 (by decide) rfl (fun h5 => ?_) (fun h5 => ?_)
  · exact absurd hi h5
  · refine j_aload_n (pc' := 9) (z := q) dX9_store_8 rfl rfl ?_
    refine j_get (pc' := 12) (v := aR (q + 1)) dX9_store_9 rfl f_Shelf_27 (by omega) hO rfl ?_
    refine j_iload_n (pc' := 13) (z := i) dX9_store_12 rfl rfl ?_
    refine j_aload_n (pc' := 14) (z := q) dX9_store_13 rfl rfl ?_
    refine j_get (pc' := 17) (v := aI so) dX9_store_14 rfl f_Shelf_21 (by omega) hO rfl ?_
    refine j_if_ne (tgt := 25) (pc' := 20) dX9_store_17 (by decide) rfl (by omega) (fun h17 => ?_) (fun h17 => ?_)
    · refine j_aload_n (pc' := 26) (z := q) dX9_store_25 rfl rfl ?_
      refine j_get (pc' := 29) (v := aI so) dX9_store_26 rfl f_Shelf_21 (by omega) hO rfl ?_
      refine j_iconst (pc' := 30) dX9_store_29 rfl ?_
      refine j_icmp_ne (tgt := 38) (pc' := 33) dX9_store_30 (by decide) rfl (by omega) (by omega) (fun h30 => ?_) (fun h30 => ?_)
      · refine j_iload_n (pc' := 39) (z := v) dX9_store_38 rfl rfl ?_
        refine j_iast (pc' := 40) dX9_store_39 rfl (by omega) hE (by omega) (by decide) ?_
        exact j_vret dX9_store_40 rfl (rt_w (by unfold nar; simp [*]))
      · refine j_iload_n (pc' := 34) (z := v) dX9_store_33 rfl rfl ?_
        refine j_i2s (pc' := 35) dX9_store_34 rfl ?_
        refine j_goto (pc' := 39) dX9_store_35 (by decide) ?_
        refine j_iast (pc' := 40) dX9_store_39 rfl (by omega) hE (by omega) (by decide) ?_
        exact j_vret dX9_store_40 rfl (rt_w (by unfold nar; simp [*]))
    · refine j_iload_n (pc' := 21) (z := v) dX9_store_20 rfl rfl ?_
      refine j_i2b (pc' := 22) dX9_store_21 rfl ?_
      refine j_goto (pc' := 39) dX9_store_22 (by decide) ?_
      refine j_iast (pc' := 40) dX9_store_39 rfl (by omega) hE (by omega) (by decide) ?_
      exact j_vret dX9_store_40 rfl (rt_w (by unfold nar; simp [*]))
set_option maxRecDepth 100000 in
set_option maxHeartbeats 4000000 in
theorem c_Shelf_skips {l : Launch} {w : AW} {q : Nat} {ct k f so sz : Int} {E : Int → Int} {i : Int} (hS : ShelfAt w q ct k f so sz E) (hK : ShelfOK ct k f so sz E) (hq : q + 2 ≤ 68) (hi : inI i) : Call l m_Shelf_skips false 68 68 [aR q, aI i] w (rt (some (aB ((0 ≤ i ∧ i < sz) ∧ E i = least so))) w) := by
  obtain ⟨hO, hE⟩ := hS
  obtain ⟨hct, hk, hf, hso, hsz, hEb⟩ := hK
  refine Call.of (L := [some (aR q), some (aI i), none]) rfl (Nat.le_of_ble_eq_true rfl) rfl (fun G ad => ?_)
  refine j_aload_n (pc' := 1) (z := q) dX9_skips_0 rfl rfl ?_
  refine j_get (pc' := 4) (v := aI so) dX9_skips_1 rfl f_Shelf_21 (by omega) hO rfl ?_
  refine j_if_ne (tgt := 12) (pc' := 7) dX9_skips_4 (by decide) rfl (by omega) (fun h4 => ?_) (fun h4 => ?_)
  · refine j_aload_n (pc' := 13) (z := q) dX9_skips_12 rfl rfl ?_
    refine j_get (pc' := 16) (v := aI so) dX9_skips_13 rfl f_Shelf_21 (by omega) hO rfl ?_
    refine j_iconst (pc' := 17) dX9_skips_16 rfl ?_
    refine j_icmp_ne (tgt := 26) (pc' := 20) dX9_skips_17 (by decide) rfl (by omega) (by omega) (fun h17 => ?_) (fun h17 => ?_)
    · refine j_ldc (pc' := 28) (n := -2147483648) dX9_skips_26 rfl k_Shelf_35 (by decide) ?_
      refine j_istore_n (pc' := 29) (L' := [some (aR q), some (aI i), some (aI (-2147483648))]) dX9_skips_28 rfl (by decide) rfl ?_
      refine j_aload_n (pc' := 30) (z := q) dX9_skips_29 rfl rfl ?_
      refine j_iload_n (pc' := 31) (z := i) dX9_skips_30 rfl rfl ?_
      refine j_callV (pc' := 34) (as := [aI i]) (rest := []) dX9_skips_31 rfl s_Shelf_31 (c_Shelf_hasPlace ⟨hO, hE⟩ ⟨hct, hk, hf, hso, hsz, hEb⟩ hq (by omega)) (by omega) hO rfl rfl rfl rfl (jdet (st' := [aB (0 ≤ i ∧ i < sz)]) rfl ?_)
      refine j_ifb_eq (tgt := 51) (pc' := 37) dX9_skips_34 (by decide) rfl (fun h34 => ?_) (fun h34 => ?_)
      · refine j_iconst (pc' := 52) dX9_skips_51 rfl ?_
        exact j_zret0 dX9_skips_52 rfl (rt_b0 (by unfold least; (repeat' split) <;> omega))
      · refine j_aload_n (pc' := 38) (z := q) dX9_skips_37 rfl rfl ?_
        refine j_get (pc' := 41) (v := aR (q + 1)) dX9_skips_38 rfl f_Shelf_27 (by omega) hO rfl ?_
        refine j_iload_n (pc' := 42) (z := i) dX9_skips_41 rfl rfl ?_
        refine j_iald (pc' := 43) dX9_skips_42 rfl (by omega) hE (by omega) (by decide) ?_
        refine j_iload_n (pc' := 44) (z := (-2147483648)) dX9_skips_43 rfl rfl ?_
        have hEi := hEb i (by omega) (by omega)
        refine j_icmp_ne (tgt := 51) (pc' := 47) dX9_skips_44 (by decide) rfl (by omega) (by omega) (fun h44 => ?_) (fun h44 => ?_)
        · refine j_iconst (pc' := 52) dX9_skips_51 rfl ?_
          exact j_zret0 dX9_skips_52 rfl (rt_b0 (by unfold least; (repeat' split) <;> omega))
        · refine j_iconst (pc' := 48) dX9_skips_47 rfl ?_
          refine j_goto (pc' := 52) dX9_skips_48 (by decide) ?_
          exact j_zret1 dX9_skips_52 rfl (rt_b1 (by unfold least; (repeat' split) <;> omega))
    · refine j_sipush (pc' := 23) dX9_skips_20 rfl (by decide) ?_
      refine j_goto (pc' := 28) dX9_skips_23 (by decide) ?_
      refine j_istore_n (pc' := 29) (L' := [some (aR q), some (aI i), some (aI (-32768))]) dX9_skips_28 rfl (by decide) rfl ?_
      refine j_aload_n (pc' := 30) (z := q) dX9_skips_29 rfl rfl ?_
      refine j_iload_n (pc' := 31) (z := i) dX9_skips_30 rfl rfl ?_
      refine j_callV (pc' := 34) (as := [aI i]) (rest := []) dX9_skips_31 rfl s_Shelf_31 (c_Shelf_hasPlace ⟨hO, hE⟩ ⟨hct, hk, hf, hso, hsz, hEb⟩ hq (by omega)) (by omega) hO rfl rfl rfl rfl (jdet (st' := [aB (0 ≤ i ∧ i < sz)]) rfl ?_)
      refine j_ifb_eq (tgt := 51) (pc' := 37) dX9_skips_34 (by decide) rfl (fun h34 => ?_) (fun h34 => ?_)
      · refine j_iconst (pc' := 52) dX9_skips_51 rfl ?_
        exact j_zret0 dX9_skips_52 rfl (rt_b0 (by unfold least; (repeat' split) <;> omega))
      · refine j_aload_n (pc' := 38) (z := q) dX9_skips_37 rfl rfl ?_
        refine j_get (pc' := 41) (v := aR (q + 1)) dX9_skips_38 rfl f_Shelf_27 (by omega) hO rfl ?_
        refine j_iload_n (pc' := 42) (z := i) dX9_skips_41 rfl rfl ?_
        refine j_iald (pc' := 43) dX9_skips_42 rfl (by omega) hE (by omega) (by decide) ?_
        refine j_iload_n (pc' := 44) (z := (-32768)) dX9_skips_43 rfl rfl ?_
        have hEi := hEb i (by omega) (by omega)
        refine j_icmp_ne (tgt := 51) (pc' := 47) dX9_skips_44 (by decide) rfl (by omega) (by omega) (fun h44 => ?_) (fun h44 => ?_)
        · refine j_iconst (pc' := 52) dX9_skips_51 rfl ?_
          exact j_zret0 dX9_skips_52 rfl (rt_b0 (by unfold least; (repeat' split) <;> omega))
        · refine j_iconst (pc' := 48) dX9_skips_47 rfl ?_
          refine j_goto (pc' := 52) dX9_skips_48 (by decide) ?_
          exact j_zret1 dX9_skips_52 rfl (rt_b1 (by unfold least; (repeat' split) <;> omega))
  · refine j_bipush (pc' := 9) dX9_skips_7 rfl (by decide) ?_
    refine j_goto (pc' := 28) dX9_skips_9 (by decide) ?_
    refine j_istore_n (pc' := 29) (L' := [some (aR q), some (aI i), some (aI (-128))]) dX9_skips_28 rfl (by decide) rfl ?_
    refine j_aload_n (pc' := 30) (z := q) dX9_skips_29 rfl rfl ?_
    refine j_iload_n (pc' := 31) (z := i) dX9_skips_30 rfl rfl ?_
    refine j_callV (pc' := 34) (as := [aI i]) (rest := []) dX9_skips_31 rfl s_Shelf_31 (c_Shelf_hasPlace ⟨hO, hE⟩ ⟨hct, hk, hf, hso, hsz, hEb⟩ hq (by omega)) (by omega) hO rfl rfl rfl rfl (jdet (st' := [aB (0 ≤ i ∧ i < sz)]) rfl ?_)
    refine j_ifb_eq (tgt := 51) (pc' := 37) dX9_skips_34 (by decide) rfl (fun h34 => ?_) (fun h34 => ?_)
    · refine j_iconst (pc' := 52) dX9_skips_51 rfl ?_
      exact j_zret0 dX9_skips_52 rfl (rt_b0 (by unfold least; (repeat' split) <;> omega))
    · refine j_aload_n (pc' := 38) (z := q) dX9_skips_37 rfl rfl ?_
      refine j_get (pc' := 41) (v := aR (q + 1)) dX9_skips_38 rfl f_Shelf_27 (by omega) hO rfl ?_
      refine j_iload_n (pc' := 42) (z := i) dX9_skips_41 rfl rfl ?_
      refine j_iald (pc' := 43) dX9_skips_42 rfl (by omega) hE (by omega) (by decide) ?_
      refine j_iload_n (pc' := 44) (z := (-128)) dX9_skips_43 rfl rfl ?_
      have hEi := hEb i (by omega) (by omega)
      refine j_icmp_ne (tgt := 51) (pc' := 47) dX9_skips_44 (by decide) rfl (by omega) (by omega) (fun h44 => ?_) (fun h44 => ?_)
      · refine j_iconst (pc' := 52) dX9_skips_51 rfl ?_
        exact j_zret0 dX9_skips_52 rfl (rt_b0 (by unfold least; (repeat' split) <;> omega))
      · refine j_iconst (pc' := 48) dX9_skips_47 rfl ?_
        refine j_goto (pc' := 52) dX9_skips_48 (by decide) ?_
        exact j_zret1 dX9_skips_52 rfl (rt_b1 (by unfold least; (repeat' split) <;> omega))
set_option maxRecDepth 100000 in
set_option maxHeartbeats 4000000 in
theorem c_Shelf_isOfPairs {l : Launch} {w : AW} {q : Nat} {ct k f so sz : Int} {E : Int → Int}  (hS : ShelfAt w q ct k f so sz E) (hK : ShelfOK ct k f so sz E) (hq : q + 2 ≤ 68)  : Call l m_Shelf_isOfPairs false 68 68 [aR q] w (rt (some (aB (pairsB E sz = true))) w) := by
  obtain ⟨hO, hE⟩ := hS
  obtain ⟨hct, hk, hf, hso, hsz, hEb⟩ := hK
  refine Call.of (L := [some (aR q), none]) rfl (Nat.le_of_ble_eq_true rfl) rfl (fun G ad => ?_)
  refine j_aload_n (pc' := 1) (z := q) dX9_isOfPairs_0 rfl rfl ?_
  refine j_get (pc' := 4) (v := aI sz) dX9_isOfPairs_1 rfl f_Shelf_24 (by omega) hO rfl ?_
  refine j_iconst (pc' := 5) dX9_isOfPairs_4 rfl ?_
  refine j_irem (pc' := 6) dX9_isOfPairs_5 rfl (by omega) (by omega) ?_
  refine j_if_eq (tgt := 11) (pc' := 9) dX9_isOfPairs_6 (by decide) rfl (by omega) (fun h6 => ?_) (fun h6 => ?_)
  · refine j_iconst (pc' := 12) dX9_isOfPairs_11 rfl ?_
    refine j_istore_n (pc' := 13) (L' := [some (aR q), some (aI 0)]) dX9_isOfPairs_12 rfl (by decide) rfl ?_
    have lp13 : ∀ (k9 : Nat) (i : Int), (0 ≤ i ∧ i ≤ sz ∧ i % 2 = 0) → (allI (pairP E) (i / 2) = true) → ((sz - i).toNat) = k9 → J l m_Shelf_isOfPairs ad G [] false (jZ ad G false 68 m_Shelf_isOfPairs.2.2.2.2.cells m_Shelf_isOfPairs.2.2.2.2.slots (rt (some (aB (pairsB E sz = true))) w)) 68 0 0 13 [some (aR q), some (aI i)] [] w := by
      intro k9
      induction k9 using Nat.strongRecOn with
      | _ k9 ih13 =>
        intro i hi ha hk13
        refine j_iload_n (pc' := 14) (z := i) dX9_isOfPairs_13 rfl rfl ?_
        refine j_iconst (pc' := 15) dX9_isOfPairs_14 rfl ?_
        refine j_iadd (pc' := 16) dX9_isOfPairs_15 rfl ?_
        refine j_aload_n (pc' := 17) (z := q) dX9_isOfPairs_16 rfl rfl ?_
        refine j_get (pc' := 20) (v := aI sz) dX9_isOfPairs_17 rfl f_Shelf_24 (by omega) hO rfl ?_
        refine j_icmp_ge (tgt := 57) (pc' := 23) dX9_isOfPairs_20 (by decide) rfl (by omega) (by omega) (fun h20 => ?_) (fun h20 => ?_)
        · refine j_iconst (pc' := 58) dX9_isOfPairs_57 rfl ?_
          exact j_zret1 dX9_isOfPairs_58 rfl (rt_b1 (by exact pairs_ok (by omega) (by rw [show sz = i by omega]; exact ha)))
        · refine j_aload_n (pc' := 24) (z := q) dX9_isOfPairs_23 rfl rfl ?_
          refine j_get (pc' := 27) (v := aR (q + 1)) dX9_isOfPairs_24 rfl f_Shelf_27 (by omega) hO rfl ?_
          refine j_iload_n (pc' := 28) (z := i) dX9_isOfPairs_27 rfl rfl ?_
          refine j_iald (pc' := 29) dX9_isOfPairs_28 rfl (by omega) hE (by omega) (by decide) ?_
          refine j_callSN (pc' := 32) (as := [aI (E i)]) (rest := []) dX9_isOfPairs_29 rfl s_Shelf_36 (c_isPace (by have := hEb i (by omega) (by omega); omega)) rfl rfl rfl (jdet (st' := [aB (0 ≤ E i ∧ E i ≤ 99)]) rfl ?_)
          refine j_ifb_eq (tgt := 49) (pc' := 35) dX9_isOfPairs_32 (by decide) rfl (fun h32 => ?_) (fun h32 => ?_)
          · refine j_iconst (pc' := 50) dX9_isOfPairs_49 rfl ?_
            exact j_zret0 dX9_isOfPairs_50 rfl (rt_b0 (by exact pairs_bad (i := i) (by omega) (by omega) (by omega)))
          · refine j_aload_n (pc' := 36) (z := q) dX9_isOfPairs_35 rfl rfl ?_
            refine j_get (pc' := 39) (v := aR (q + 1)) dX9_isOfPairs_36 rfl f_Shelf_27 (by omega) hO rfl ?_
            refine j_iload_n (pc' := 40) (z := i) dX9_isOfPairs_39 rfl rfl ?_
            refine j_iconst (pc' := 41) dX9_isOfPairs_40 rfl ?_
            refine j_iadd (pc' := 42) dX9_isOfPairs_41 rfl ?_
            refine j_iald (pc' := 43) dX9_isOfPairs_42 rfl (by omega) hE (by omega) (by decide) ?_
            refine j_callSN (pc' := 46) (as := [aI (E (i + 1))]) (rest := []) dX9_isOfPairs_43 rfl s_Shelf_39 (c_isEither (by have := hEb (i + 1) (by omega) (by omega); omega)) rfl rfl rfl (jdet (st' := [aB (0 ≤ E (i + 1) ∧ E (i + 1) ≤ 1)]) rfl ?_)
            refine j_ifb_ne (tgt := 51) (pc' := 49) dX9_isOfPairs_46 (by decide) rfl (fun h46 => ?_) (fun h46 => ?_)
            · refine j_iinc (pc' := 54) (z := i) (L' := [some (aR q), some (aI (i + 2))]) dX9_isOfPairs_51 rfl (by decide) rfl rfl rfl ?_
              refine j_goto (pc' := 13) dX9_isOfPairs_54 (by decide) ?_
              exact ih13 _ (by omega) (i + 2) (by omega) (by exact pairs_s (by omega) (by omega) ha (by omega)) rfl
            · refine j_iconst (pc' := 50) dX9_isOfPairs_49 rfl ?_
              exact j_zret0 dX9_isOfPairs_50 rfl (rt_b0 (by exact pairs_bad (i := i) (by omega) (by omega) (by omega)))
    exact lp13 _ 0 (by omega) (by rfl) rfl
  · refine j_iconst (pc' := 10) dX9_isOfPairs_9 rfl ?_
    exact j_zret0 dX9_isOfPairs_10 rfl (rt_b0 (by exact pairs_no h6))
set_option maxRecDepth 100000 in
set_option maxHeartbeats 4000000 in
theorem c_Shelf_hasDigit {l : Launch} {w : AW} {q : Nat} {ct k f so sz : Int} {E : Int → Int} {i : Int} (hS : ShelfAt w q ct k f so sz E) (hK : ShelfOK ct k f so sz E) (hq : q + 2 ≤ 68) (hi : inI i) : Call l m_Shelf_hasDigit false 68 68 [aR q, aI i] w (rt (some (aB ((0 ≤ i ∧ i < sz) ∧ 48 ≤ E i ∧ E i ≤ 57))) w) := by
  obtain ⟨hO, hE⟩ := hS
  obtain ⟨hct, hk, hf, hso, hsz, hEb⟩ := hK
  refine Call.of (L := [some (aR q), some (aI i)]) rfl (Nat.le_of_ble_eq_true rfl) rfl (fun G ad => ?_)
  refine j_aload_n (pc' := 1) (z := q) dX9_hasDigit_0 rfl rfl ?_
  refine j_iload_n (pc' := 2) (z := i) dX9_hasDigit_1 rfl rfl ?_
  refine j_callV (pc' := 5) (as := [aI i]) (rest := []) dX9_hasDigit_2 rfl s_Shelf_31 (c_Shelf_hasPlace ⟨hO, hE⟩ ⟨hct, hk, hf, hso, hsz, hEb⟩ hq (by omega)) (by omega) hO rfl rfl rfl rfl (jdet (st' := [aB (0 ≤ i ∧ i < sz)]) rfl ?_)
  refine j_ifb_eq (tgt := 28) (pc' := 8) dX9_hasDigit_5 (by decide) rfl (fun h5 => ?_) (fun h5 => ?_)
  · refine j_iconst (pc' := 29) dX9_hasDigit_28 rfl ?_
    exact j_zret0 dX9_hasDigit_29 rfl (rt_b0 (by omega))
  · refine j_aload_n (pc' := 9) (z := q) dX9_hasDigit_8 rfl rfl ?_
    refine j_get (pc' := 12) (v := aR (q + 1)) dX9_hasDigit_9 rfl f_Shelf_27 (by omega) hO rfl ?_
    refine j_iload_n (pc' := 13) (z := i) dX9_hasDigit_12 rfl rfl ?_
    refine j_iald (pc' := 14) dX9_hasDigit_13 rfl (by omega) hE (by omega) (by decide) ?_
    refine j_bipush (pc' := 16) dX9_hasDigit_14 rfl (by decide) ?_
    refine j_bipush (pc' := 18) dX9_hasDigit_16 rfl (by decide) ?_
    have hEi := hEb i (by omega) (by omega)
    refine j_callSN (pc' := 21) (as := [aI (E i), aI 48, aI 57]) (rest := []) dX9_hasDigit_18 rfl s_Shelf_42 (c_within (by omega) (by omega) (by omega)) rfl rfl rfl (jdet (st' := [aB (48 ≤ E i ∧ E i ≤ 57)]) rfl ?_)
    refine j_ifb_eq (tgt := 28) (pc' := 24) dX9_hasDigit_21 (by decide) rfl (fun h21 => ?_) (fun h21 => ?_)
    · refine j_iconst (pc' := 29) dX9_hasDigit_28 rfl ?_
      exact j_zret0 dX9_hasDigit_29 rfl (rt_b0 (by omega))
    · refine j_iconst (pc' := 25) dX9_hasDigit_24 rfl ?_
      refine j_goto (pc' := 29) dX9_hasDigit_25 (by decide) ?_
      exact j_zret1 dX9_hasDigit_29 rfl (rt_b1 (by omega))
set_option maxRecDepth 100000 in
set_option maxHeartbeats 4000000 in
theorem c_Shelf_number {l : Launch} {w : AW} {q : Nat} {ct k f so sz : Int} {E : Int → Int} {a b : Int} (hS : ShelfAt w q ct k f so sz E) (hK : ShelfOK ct k f so sz E) (hq : q + 2 ≤ 68) (ha : 0 ≤ a ∧ a ≤ 1000) (hb : 0 ≤ b ∧ b ≤ 4) (hd : ∀ k, 0 ≤ k → k < b → (0 ≤ a + k ∧ a + k < sz) ∧ 48 ≤ E (a + k) ∧ E (a + k) ≤ 57) : Call l m_Shelf_number false 68 68 [aR q, aI a, aI b] w (rt (some (aI (numF E a b))) w) := by
  obtain ⟨hO, hE⟩ := hS
  obtain ⟨hct, hk, hf, hso, hsz, hEb⟩ := hK
  refine Call.of (L := [some (aR q), some (aI a), some (aI b), none, none]) rfl (Nat.le_of_ble_eq_true rfl) rfl (fun G ad => ?_)
  refine j_iconst (pc' := 1) dX9_number_0 rfl ?_
  refine j_istore_n (pc' := 2) (L' := [some (aR q), some (aI a), some (aI b), some (aI 0), none]) dX9_number_1 rfl (by decide) rfl ?_
  refine j_iload_n (pc' := 3) (z := a) dX9_number_2 rfl rfl ?_
  refine j_istore (pc' := 5) (L' := [some (aR q), some (aI a), some (aI b), some (aI 0), some (aI a)]) dX9_number_3 rfl (by decide) rfl ?_
  have lp5 : ∀ (k9 : Nat) (v : Int) (i : Int), (a ≤ i ∧ i ≤ a + b) → (v = numF E a (i - a)) → ((a + b - i).toNat) = k9 → J l m_Shelf_number ad G [] false (jZ ad G false 68 m_Shelf_number.2.2.2.2.cells m_Shelf_number.2.2.2.2.slots (rt (some (aI (numF E a b))) w)) 68 0 0 5 [some (aR q), some (aI a), some (aI b), some (aI v), some (aI i)] [] w := by
    intro k9
    induction k9 using Nat.strongRecOn with
    | _ k9 ih5 =>
      intro v i hi hv hk5
      refine j_iload (pc' := 7) (z := i) dX9_number_5 rfl rfl ?_
      refine j_iload_n (pc' := 8) (z := a) dX9_number_7 rfl rfl ?_
      refine j_iload_n (pc' := 9) (z := b) dX9_number_8 rfl rfl ?_
      refine j_iadd (pc' := 10) dX9_number_9 rfl ?_
      refine j_icmp_ge (tgt := 44) (pc' := 13) dX9_number_10 (by decide) rfl (by omega) (by omega) (fun h10 => ?_) (fun h10 => ?_)
      · refine j_iload_n (pc' := 45) (z := v) dX9_number_44 rfl rfl ?_
        exact j_iret dX9_number_45 rfl (rt_eq (by rw [hv, show i - a = b by omega]))
      · refine j_aload_n (pc' := 14) (z := q) dX9_number_13 rfl rfl ?_
        refine j_iload (pc' := 16) (z := i) dX9_number_14 rfl rfl ?_
        refine j_callV (pc' := 19) (as := [aI i]) (rest := []) dX9_number_16 rfl s_Shelf_46 (c_Shelf_hasDigit ⟨hO, hE⟩ ⟨hct, hk, hf, hso, hsz, hEb⟩ hq (by omega)) (by omega) hO rfl rfl rfl rfl (jdet (st' := [aB ((0 ≤ i ∧ i < sz) ∧ 48 ≤ E i ∧ E i ≤ 57)]) rfl ?_)
        refine j_ifb_eq (tgt := 44) (pc' := 22) dX9_number_19 (by decide) rfl (fun h19 => ?_) (fun h19 => ?_)
        · exact absurd (by have := hd (i - a) (by omega) (by omega); rw [show a + (i - a) = i by omega] at this; exact this) h19
        · refine j_bipush (pc' := 24) dX9_number_22 rfl (by decide) ?_
          refine j_iload_n (pc' := 25) (z := v) dX9_number_24 rfl rfl ?_
          refine j_imul (pc' := 26) dX9_number_25 rfl ?_
          refine j_aload_n (pc' := 27) (z := q) dX9_number_26 rfl rfl ?_
          refine j_get (pc' := 30) (v := aR (q + 1)) dX9_number_27 rfl f_Shelf_27 (by omega) hO rfl ?_
          refine j_iload (pc' := 32) (z := i) dX9_number_30 rfl rfl ?_
          refine j_iald (pc' := 33) dX9_number_32 rfl (by omega) hE (by omega) (by decide) ?_
          refine j_iadd (pc' := 34) dX9_number_33 rfl ?_
          refine j_bipush (pc' := 36) dX9_number_34 rfl (by decide) ?_
          refine j_isub (pc' := 37) dX9_number_36 rfl ?_
          refine j_istore_n (pc' := 38) (L' := [some (aR q), some (aI a), some (aI b), some (aI (((10 * v) + (E i)) - 48)), some (aI i)]) dX9_number_37 rfl (by decide) rfl ?_
          refine j_iinc (pc' := 41) (z := i) (L' := [some (aR q), some (aI a), some (aI b), some (aI (((10 * v) + (E i)) - 48)), some (aI (i + 1))]) dX9_number_38 rfl (by decide) rfl rfl rfl ?_
          refine j_goto (pc' := 5) dX9_number_41 (by decide) ?_
          exact ih5 _ (by omega) (((10 * v) + (E i)) - 48) (i + 1) (by omega) (by rw [show i + 1 - a = (i - a) + 1 by omega, numF_s (by omega), show a + (i - a) = i by omega, hv]) rfl
  exact lp5 _ 0 a (by omega) (by rw [Int.sub_self]; rfl) rfl
