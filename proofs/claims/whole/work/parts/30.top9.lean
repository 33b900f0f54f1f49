theorem bub_y {g i : Int} {Q : Int → Int} (hi : 1 ≤ i) (h : g * foldI (bubH g) Q (i - 1) (i - 1) < g * foldI (bubH g) Q (i - 1) i) : foldI (bubH g) Q i = swp (foldI (bubH g) Q (i - 1)) i := by
  have e : foldI (bubH g) Q (i - 1 + 1) = bubH g (i - 1) (foldI (bubH g) Q (i - 1)) := foldI_s (by omega)
  rw [show i - 1 + 1 = i by omega] at e
  rw [e]
  unfold bubH at h ⊢
  rw [show i - 1 + 1 = i by omega, if_pos h]
theorem bub_n {g i : Int} {Q : Int → Int} (hi : 1 ≤ i) (h : ¬ g * foldI (bubH g) Q (i - 1) (i - 1) < g * foldI (bubH g) Q (i - 1) i) : foldI (bubH g) Q i = foldI (bubH g) Q (i - 1) := by
  have e : foldI (bubH g) Q (i - 1 + 1) = bubH g (i - 1) (foldI (bubH g) Q (i - 1)) := foldI_s (by omega)
  rw [show i - 1 + 1 = i by omega] at e
  rw [e]
  unfold bubH at h ⊢
  rw [show i - 1 + 1 = i by omega, if_neg h]
theorem lsum_pos : ∀ {l : List Int}, (∀ x ∈ l, 0 ≤ x) → 0 ≤ lsum l
  | [], _ => Int.le_refl _
  | x :: l, h => by
    have h1 := h x List.mem_cons_self
    have h2 := lsum_pos (l := l) (fun y hy => h y (List.mem_cons_of_mem _ hy))
    show 0 ≤ x + lsum l
    omega
theorem obo_sm {Q : Int → Int} {m : Int} (h : 2 ≤ m) : lsum (pls (bub (-1) Q m) (m - 1)) = lsum (pls Q m) - bub (-1) Q m (m - 1) := by
  obtain ⟨a1, a2, a3⟩ := bub_ok (g := -1) (Q := Q) (m := m) (by omega)
  have e4 : pls (bub (-1) Q m) m = pls (bub (-1) Q m) (m - 1) ++ [bub (-1) Q m (m - 1)] := by
    have := pls_s (Q := bub (-1) Q m) (m := m - 1) (by omega)
    rwa [show m - 1 + 1 = m by omega] at this
  rw [← lsum_perm a1, e4, lsum_app]
  show _ = _ + (_ + 0) - _
  omega
noncomputable def halvesA (D : Int → Int → Int) (n set p : Int) : Int := if (1 ≤ set ∧ set < 2 ^ n.toNat) ∧ (0 ≤ p ∧ p ≤ 1) then lowT (halV D n set) (wts D n set) p else -1000000001
noncomputable def oneA (D : Int → Int → Int) (n set p : Int) : Int := if (1 ≤ set ∧ set < 2 ^ n.toNat) ∧ (0 ≤ p ∧ p ≤ 1) then lowT (oboV D n set) (wts D n set) p else -1000000001
noncomputable def worseA (D : Int → Int → Int) (n set : Int) : Int := if 1 ≤ set ∧ set < 2 ^ n.toNat then oboV D n set - halV D n set else -1
theorem halvesA_n {D : Int → Int → Int} {n set p : Int} (h : ¬ ((1 ≤ set ∧ set < 2 ^ n.toNat) ∧ (0 ≤ p ∧ p ≤ 1))) : halvesA D n set p = -1000000001 := if_neg h
theorem oneA_n {D : Int → Int → Int} {n set p : Int} (h : ¬ ((1 ≤ set ∧ set < 2 ^ n.toNat) ∧ (0 ≤ p ∧ p ≤ 1))) : oneA D n set p = -1000000001 := if_neg h
set_option maxRecDepth 100000 in
set_option maxHeartbeats 4000000 in
theorem c_Top_swapInPool {l : Launch} {w : AW} {Q : Int → Int} {hi i : Int} (hO : w 0 = eO 10 [aR 10, aR 18, aR 26, aI hi, aR 1, aR 34, aR 51, aR 52]) (hP : w 51 = eI 7 Q) (hi9 : 1 ≤ i ∧ i ≤ 6) : Call l m_Top_swapInPool false 68 68 [aR 0, aI i] w (rt none (up w 51 (eI 7 (swp Q i)))) := by
  refine Call.of (L := [some (aR 0), some (aI i), none]) rfl (Nat.le_of_ble_eq_true rfl) rfl (fun G ad => ?_)
  refine j_iload_n (pc' := 1) (z := i) dX11_swapInPool_0 rfl rfl ?_
  refine j_iconst (pc' := 2) dX11_swapInPool_1 rfl ?_
  refine j_aload_n (pc' := 3) (z := 0) dX11_swapInPool_2 rfl rfl ?_
  refine j_get (pc' := 6) (v := aR 51) dX11_swapInPool_3 rfl f_Top_63 (by omega) hO rfl ?_
  refine j_alen (pc' := 7) dX11_swapInPool_6 rfl (by omega) hP ?_
  refine j_st (st' := [aI 7, aI 1, aI i]) rfl ?_
  refine j_iconst (pc' := 8) dX11_swapInPool_7 rfl ?_
  refine j_isub (pc' := 9) dX11_swapInPool_8 rfl ?_
  refine j_callS (pc' := 12) (as := [aI i, aI 1, aI (7 - 1)]) (rest := []) dX11_swapInPool_9 rfl s_Top_126 (c_within (by omega) (by omega) (by omega)) rfl rfl rfl (jdet (st' := [aB (1 ≤ i ∧ i ≤ 7 - 1)]) rfl ?_)
  refine j_ifb_eq (tgt := 45) (pc' := 15) dX11_swapInPool_12 (by decide) rfl (fun h12 => ?_) (fun h12 => ?_)
  · exact absurd h12 (by omega)
  · refine j_aload_n (pc' := 16) (z := 0) dX11_swapInPool_15 rfl rfl ?_
    refine j_get (pc' := 19) (v := aR 51) dX11_swapInPool_16 rfl f_Top_63 (by omega) hO rfl ?_
    refine j_iload_n (pc' := 20) (z := i) dX11_swapInPool_19 rfl rfl ?_
    refine j_iconst (pc' := 21) dX11_swapInPool_20 rfl ?_
    refine j_isub (pc' := 22) dX11_swapInPool_21 rfl ?_
    refine j_iald (pc' := 23) dX11_swapInPool_22 rfl (by omega) hP (by omega) (by decide) ?_
    refine j_istore_n (pc' := 24) (L' := [some (aR 0), some (aI i), some (aI (Q (i - 1)))]) dX11_swapInPool_23 rfl (by decide) rfl ?_
    refine j_aload_n (pc' := 25) (z := 0) dX11_swapInPool_24 rfl rfl ?_
    refine j_get (pc' := 28) (v := aR 51) dX11_swapInPool_25 rfl f_Top_63 (by omega) hO rfl ?_
    refine j_iload_n (pc' := 29) (z := i) dX11_swapInPool_28 rfl rfl ?_
    refine j_iconst (pc' := 30) dX11_swapInPool_29 rfl ?_
    refine j_isub (pc' := 31) dX11_swapInPool_30 rfl ?_
    refine j_aload_n (pc' := 32) (z := 0) dX11_swapInPool_31 rfl rfl ?_
    refine j_get (pc' := 35) (v := aR 51) dX11_swapInPool_32 rfl f_Top_63 (by omega) hO rfl ?_
    refine j_iload_n (pc' := 36) (z := i) dX11_swapInPool_35 rfl rfl ?_
    refine j_iald (pc' := 37) dX11_swapInPool_36 rfl (by omega) hP (by omega) (by decide) ?_
    refine j_iast (pc' := 38) dX11_swapInPool_37 rfl (by omega) hP (by omega) (by decide) ?_
    refine j_aload_n (pc' := 39) (z := 0) dX11_swapInPool_38 rfl rfl ?_
    refine j_get (pc' := 42) (v := aR 51) dX11_swapInPool_39 rfl f_Top_63 (by omega) ((up_n (by omega)).trans hO) rfl ?_
    refine j_iload_n (pc' := 43) (z := i) dX11_swapInPool_42 rfl rfl ?_
    refine j_iload_n (pc' := 44) (z := (Q (i - 1))) dX11_swapInPool_43 rfl rfl ?_
    refine j_iast (pc' := 45) dX11_swapInPool_44 rfl (by omega) up_s (by omega) (by decide) ?_
    refine j_w (w' := up w 51 (eI 7 (upi (upi Q (i - 1) (Q i)) i (Q (i - 1))))) (by funext j9; simp only [up]; (repeat' split) <;> first | rfl | (exfalso; omega)) ?_
    exact j_vret dX11_swapInPool_45 rfl (rt_w rfl)
set_option maxRecDepth 100000 in
set_option maxHeartbeats 4000000 in
theorem c_Top_moveLeastToEnd {l : Launch} {w : AW} {Q : Int → Int} {hi m : Int} (hO : w 0 = eO 10 [aR 10, aR 18, aR 26, aI hi, aR 1, aR 34, aR 51, aR 52]) (hP : w 51 = eI 7 Q) (hm : 1 ≤ m ∧ m ≤ 7) (hb : ∀ x ∈ pls Q m, 0 ≤ x ∧ x ≤ 1000) : Call l m_Top_moveLeastToEnd false 68 68 [aR 0, aI m] w (rt none (up w 51 (eI 7 (bub 1 Q m)))) := by
  refine Call.of (L := [some (aR 0), some (aI m), none]) rfl (Nat.le_of_ble_eq_true rfl) rfl (fun G ad => ?_)
  refine j_iconst (pc' := 1) dX11_moveLeastToEnd_0 rfl ?_
  refine j_istore_n (pc' := 2) (L' := [some (aR 0), some (aI m), some (aI 1)]) dX11_moveLeastToEnd_1 rfl (by decide) rfl ?_
  have lp2 : ∀ (k9 : Nat) (i : Int), (1 ≤ i ∧ i ≤ m) → ((m - i).toNat) = k9 → J l m_Top_moveLeastToEnd ad G [] false (jZ ad G false 68 m_Top_moveLeastToEnd.2.2.2.2.cells m_Top_moveLeastToEnd.2.2.2.2.slots (rt none (up w 51 (eI 7 (bub 1 Q m))))) 68 0 0 2 [some (aR 0), some (aI m), some (aI i)] [] (up w 51 (eI 7 (foldI (bubH 1) Q (i - 1)))) := by
    intro k9
    induction k9 using Nat.strongRecOn with
    | _ k9 ih2 =>
      intro i hi9 hk2
      refine j_iload_n (pc' := 3) (z := i) dX11_moveLeastToEnd_2 rfl rfl ?_
      refine j_iload_n (pc' := 4) (z := m) dX11_moveLeastToEnd_3 rfl rfl ?_
      refine j_icmp_ge (tgt := 44) (pc' := 7) dX11_moveLeastToEnd_4 (by decide) rfl (by omega) (by omega) (fun h4 => ?_) (fun h4 => ?_)
      · exact j_vret dX11_moveLeastToEnd_44 rfl (rt_w (by rw [show i = m by omega]; rfl))
      · refine j_iload_n (pc' := 8) (z := i) dX11_moveLeastToEnd_7 rfl rfl ?_
        refine j_aload_n (pc' := 9) (z := 0) dX11_moveLeastToEnd_8 rfl rfl ?_
        refine j_get (pc' := 12) (v := aR 51) dX11_moveLeastToEnd_9 rfl f_Top_63 (by omega) ((up_n (by omega)).trans hO) rfl ?_
        refine j_alen (pc' := 13) dX11_moveLeastToEnd_12 rfl (by omega) up_s ?_
        refine j_st (st' := [aI 7, aI i]) rfl ?_
        refine j_icmp_ge (tgt := 44) (pc' := 16) dX11_moveLeastToEnd_13 (by decide) rfl (by omega) (by omega) (fun h13 => ?_) (fun h13 => ?_)
        · exact j_vret dX11_moveLeastToEnd_44 rfl (rt_w (by rw [show i = m by omega]; rfl))
        · have hq1 : (foldI (bubH 1) Q (i - 1)) (i - 1) = (foldI (bubH 1) Q (i - 1)) (i - 1) := rfl
          have hk9 := bub_key 1 Q (i - 1).toNat
          rw [Int.toNat_of_nonneg (by omega), show i - 1 + 1 = i by omega] at hk9
          obtain ⟨k1, k2, k3⟩ := hk9
          have hm1 : 0 ≤ (foldI (bubH 1) Q (i - 1)) (i - 1) ∧ (foldI (bubH 1) Q (i - 1)) (i - 1) ≤ 1000 := by
            obtain ⟨j, hj, e⟩ := pls_mem.mp (k1.mem_iff.mp (pls_mem.mpr ⟨i - 1, by omega, rfl⟩))
            rw [← e]; exact hb _ (pls_mem.mpr ⟨j, by omega, rfl⟩)
          have hm2 : 0 ≤ (foldI (bubH 1) Q (i - 1)) i ∧ (foldI (bubH 1) Q (i - 1)) i ≤ 1000 := by
            rw [k2 i (by omega)]; exact hb _ (pls_mem.mpr ⟨i, by omega, rfl⟩)
          refine j_aload_n (pc' := 17) (z := 0) dX11_moveLeastToEnd_16 rfl rfl ?_
          refine j_get (pc' := 20) (v := aR 51) dX11_moveLeastToEnd_17 rfl f_Top_63 (by omega) ((up_n (by omega)).trans hO) rfl ?_
          refine j_iload_n (pc' := 21) (z := i) dX11_moveLeastToEnd_20 rfl rfl ?_
          refine j_iconst (pc' := 22) dX11_moveLeastToEnd_21 rfl ?_
          refine j_isub (pc' := 23) dX11_moveLeastToEnd_22 rfl ?_
          refine j_iald (pc' := 24) dX11_moveLeastToEnd_23 rfl (by omega) up_s (by omega) (by decide) ?_
          refine j_aload_n (pc' := 25) (z := 0) dX11_moveLeastToEnd_24 rfl rfl ?_
          refine j_get (pc' := 28) (v := aR 51) dX11_moveLeastToEnd_25 rfl f_Top_63 (by omega) ((up_n (by omega)).trans hO) rfl ?_
          refine j_iload_n (pc' := 29) (z := i) dX11_moveLeastToEnd_28 rfl rfl ?_
          refine j_iald (pc' := 30) dX11_moveLeastToEnd_29 rfl (by omega) up_s (by omega) (by decide) ?_
          refine j_icmp_ge (tgt := 38) (pc' := 33) dX11_moveLeastToEnd_30 (by decide) rfl (by omega) (by omega) (fun h30 => ?_) (fun h30 => ?_)
          · refine j_iinc (pc' := 41) (z := i) (L' := [some (aR 0), some (aI m), some (aI (i + 1))]) dX11_moveLeastToEnd_38 rfl (by decide) rfl rfl rfl ?_
            refine j_goto (pc' := 2) dX11_moveLeastToEnd_41 (by decide) ?_
            refine j_w (w' := up w 51 (eI 7 (foldI (bubH 1) Q ((i + 1) - 1)))) (by first | (funext j9; simp only [up]; (repeat' split) <;> first | (subst_vars; exact hP) | rfl | (exfalso; omega)) | (rw [show i + 1 - 1 = i by omega]; first | rw [bub_y hi9.1 (by omega)] | rw [bub_n hi9.1 (by omega)])) ?_
            exact ih2 _ (by omega) (i + 1) (by omega) rfl
          · refine j_aload_n (pc' := 34) (z := 0) dX11_moveLeastToEnd_33 rfl rfl ?_
            refine j_iload_n (pc' := 35) (z := i) dX11_moveLeastToEnd_34 rfl rfl ?_
            refine j_callV (pc' := 38) (as := [aI i]) (rest := []) dX11_moveLeastToEnd_35 rfl s_Top_274 (c_Top_swapInPool ((up_n (by omega)).trans hO) up_s (by omega)) (by omega) ((up_n (by omega)).trans hO) rfl rfl rfl rfl (jdet (st' := []) rfl ?_)
            refine j_w (w' := up w 51 (eI 7 (swp (foldI (bubH 1) Q (i - 1)) i))) (by funext j9; simp only [up]; (repeat' split) <;> first | rfl | (exfalso; omega)) ?_
            refine j_iinc (pc' := 41) (z := i) (L' := [some (aR 0), some (aI m), some (aI (i + 1))]) dX11_moveLeastToEnd_38 rfl (by decide) rfl rfl rfl ?_
            refine j_goto (pc' := 2) dX11_moveLeastToEnd_41 (by decide) ?_
            refine j_w (w' := up w 51 (eI 7 (foldI (bubH 1) Q ((i + 1) - 1)))) (by first | (funext j9; simp only [up]; (repeat' split) <;> first | (subst_vars; exact hP) | rfl | (exfalso; omega)) | (rw [show i + 1 - 1 = i by omega]; first | rw [bub_y hi9.1 (by omega)] | rw [bub_n hi9.1 (by omega)])) ?_
            exact ih2 _ (by omega) (i + 1) (by omega) rfl
  refine j_w (w' := up w 51 (eI 7 (foldI (bubH 1) Q (1 - 1)))) (by first | (funext j9; simp only [up]; (repeat' split) <;> first | (subst_vars; exact hP) | rfl | (exfalso; omega)) | (rw [show i + 1 - 1 = i by omega]; first | rw [bub_y hi9.1 (by omega)] | rw [bub_n hi9.1 (by omega)])) ?_
  exact lp2 _ 1 (by omega) rfl
set_option maxRecDepth 100000 in
set_option maxHeartbeats 4000000 in
theorem c_Top_moveGreatestToEnd {l : Launch} {w : AW} {Q : Int → Int} {hi m : Int} (hO : w 0 = eO 10 [aR 10, aR 18, aR 26, aI hi, aR 1, aR 34, aR 51, aR 52]) (hP : w 51 = eI 7 Q) (hm : 1 ≤ m ∧ m ≤ 7) (hb : ∀ x ∈ pls Q m, 0 ≤ x ∧ x ≤ 1000) : Call l m_Top_moveGreatestToEnd false 68 68 [aR 0, aI m] w (rt none (up w 51 (eI 7 (bub (-1) Q m)))) := by
  refine Call.of (L := [some (aR 0), some (aI m), none]) rfl (Nat.le_of_ble_eq_true rfl) rfl (fun G ad => ?_)
  refine j_iconst (pc' := 1) dX11_moveGreatestToEnd_0 rfl ?_
  refine j_istore_n (pc' := 2) (L' := [some (aR 0), some (aI m), some (aI 1)]) dX11_moveGreatestToEnd_1 rfl (by decide) rfl ?_
  have lp2 : ∀ (k9 : Nat) (i : Int), (1 ≤ i ∧ i ≤ m) → ((m - i).toNat) = k9 → J l m_Top_moveGreatestToEnd ad G [] false (jZ ad G false 68 m_Top_moveGreatestToEnd.2.2.2.2.cells m_Top_moveGreatestToEnd.2.2.2.2.slots (rt none (up w 51 (eI 7 (bub (-1) Q m))))) 68 0 0 2 [some (aR 0), some (aI m), some (aI i)] [] (up w 51 (eI 7 (foldI (bubH (-1)) Q (i - 1)))) := by
    intro k9
    induction k9 using Nat.strongRecOn with
    | _ k9 ih2 =>
      intro i hi9 hk2
      refine j_iload_n (pc' := 3) (z := i) dX11_moveGreatestToEnd_2 rfl rfl ?_
      refine j_iload_n (pc' := 4) (z := m) dX11_moveGreatestToEnd_3 rfl rfl ?_
      refine j_icmp_ge (tgt := 44) (pc' := 7) dX11_moveGreatestToEnd_4 (by decide) rfl (by omega) (by omega) (fun h4 => ?_) (fun h4 => ?_)
      · exact j_vret dX11_moveGreatestToEnd_44 rfl (rt_w (by rw [show i = m by omega]; rfl))
      · refine j_iload_n (pc' := 8) (z := i) dX11_moveGreatestToEnd_7 rfl rfl ?_
        refine j_aload_n (pc' := 9) (z := 0) dX11_moveGreatestToEnd_8 rfl rfl ?_
        refine j_get (pc' := 12) (v := aR 51) dX11_moveGreatestToEnd_9 rfl f_Top_63 (by omega) ((up_n (by omega)).trans hO) rfl ?_
        refine j_alen (pc' := 13) dX11_moveGreatestToEnd_12 rfl (by omega) up_s ?_
        refine j_st (st' := [aI 7, aI i]) rfl ?_
        refine j_icmp_ge (tgt := 44) (pc' := 16) dX11_moveGreatestToEnd_13 (by decide) rfl (by omega) (by omega) (fun h13 => ?_) (fun h13 => ?_)
        · exact j_vret dX11_moveGreatestToEnd_44 rfl (rt_w (by rw [show i = m by omega]; rfl))
        · have hq1 : (foldI (bubH (-1)) Q (i - 1)) (i - 1) = (foldI (bubH (-1)) Q (i - 1)) (i - 1) := rfl
          have hk9 := bub_key (-1) Q (i - 1).toNat
          rw [Int.toNat_of_nonneg (by omega), show i - 1 + 1 = i by omega] at hk9
          obtain ⟨k1, k2, k3⟩ := hk9
          have hm1 : 0 ≤ (foldI (bubH (-1)) Q (i - 1)) (i - 1) ∧ (foldI (bubH (-1)) Q (i - 1)) (i - 1) ≤ 1000 := by
            obtain ⟨j, hj, e⟩ := pls_mem.mp (k1.mem_iff.mp (pls_mem.mpr ⟨i - 1, by omega, rfl⟩))
            rw [← e]; exact hb _ (pls_mem.mpr ⟨j, by omega, rfl⟩)
          have hm2 : 0 ≤ (foldI (bubH (-1)) Q (i - 1)) i ∧ (foldI (bubH (-1)) Q (i - 1)) i ≤ 1000 := by
            rw [k2 i (by omega)]; exact hb _ (pls_mem.mpr ⟨i, by omega, rfl⟩)
          refine j_aload_n (pc' := 17) (z := 0) dX11_moveGreatestToEnd_16 rfl rfl ?_
          refine j_get (pc' := 20) (v := aR 51) dX11_moveGreatestToEnd_17 rfl f_Top_63 (by omega) ((up_n (by omega)).trans hO) rfl ?_
          refine j_iload_n (pc' := 21) (z := i) dX11_moveGreatestToEnd_20 rfl rfl ?_
          refine j_iconst (pc' := 22) dX11_moveGreatestToEnd_21 rfl ?_
          refine j_isub (pc' := 23) dX11_moveGreatestToEnd_22 rfl ?_
          refine j_iald (pc' := 24) dX11_moveGreatestToEnd_23 rfl (by omega) up_s (by omega) (by decide) ?_
          refine j_aload_n (pc' := 25) (z := 0) dX11_moveGreatestToEnd_24 rfl rfl ?_
          refine j_get (pc' := 28) (v := aR 51) dX11_moveGreatestToEnd_25 rfl f_Top_63 (by omega) ((up_n (by omega)).trans hO) rfl ?_
          refine j_iload_n (pc' := 29) (z := i) dX11_moveGreatestToEnd_28 rfl rfl ?_
          refine j_iald (pc' := 30) dX11_moveGreatestToEnd_29 rfl (by omega) up_s (by omega) (by decide) ?_
          refine j_icmp_le (tgt := 38) (pc' := 33) dX11_moveGreatestToEnd_30 (by decide) rfl (by omega) (by omega) (fun h30 => ?_) (fun h30 => ?_)
          · refine j_iinc (pc' := 41) (z := i) (L' := [some (aR 0), some (aI m), some (aI (i + 1))]) dX11_moveGreatestToEnd_38 rfl (by decide) rfl rfl rfl ?_
            refine j_goto (pc' := 2) dX11_moveGreatestToEnd_41 (by decide) ?_
            refine j_w (w' := up w 51 (eI 7 (foldI (bubH (-1)) Q ((i + 1) - 1)))) (by first | (funext j9; simp only [up]; (repeat' split) <;> first | (subst_vars; exact hP) | rfl | (exfalso; omega)) | (rw [show i + 1 - 1 = i by omega]; first | rw [bub_y hi9.1 (by omega)] | rw [bub_n hi9.1 (by omega)])) ?_
            exact ih2 _ (by omega) (i + 1) (by omega) rfl
          · refine j_aload_n (pc' := 34) (z := 0) dX11_moveGreatestToEnd_33 rfl rfl ?_
            refine j_iload_n (pc' := 35) (z := i) dX11_moveGreatestToEnd_34 rfl rfl ?_
            refine j_callV (pc' := 38) (as := [aI i]) (rest := []) dX11_moveGreatestToEnd_35 rfl s_Top_274 (c_Top_swapInPool ((up_n (by omega)).trans hO) up_s (by omega)) (by omega) ((up_n (by omega)).trans hO) rfl rfl rfl rfl (jdet (st' := []) rfl ?_)
            refine j_w (w' := up w 51 (eI 7 (swp (foldI (bubH (-1)) Q (i - 1)) i))) (by funext j9; simp only [up]; (repeat' split) <;> first | rfl | (exfalso; omega)) ?_
            refine j_iinc (pc' := 41) (z := i) (L' := [some (aR 0), some (aI m), some (aI (i + 1))]) dX11_moveGreatestToEnd_38 rfl (by decide) rfl rfl rfl ?_
            refine j_goto (pc' := 2) dX11_moveGreatestToEnd_41 (by decide) ?_
            refine j_w (w' := up w 51 (eI 7 (foldI (bubH (-1)) Q ((i + 1) - 1)))) (by first | (funext j9; simp only [up]; (repeat' split) <;> first | (subst_vars; exact hP) | rfl | (exfalso; omega)) | (rw [show i + 1 - 1 = i by omega]; first | rw [bub_y hi9.1 (by omega)] | rw [bub_n hi9.1 (by omega)])) ?_
            exact ih2 _ (by omega) (i + 1) (by omega) rfl
  refine j_w (w' := up w 51 (eI 7 (foldI (bubH (-1)) Q (1 - 1)))) (by first | (funext j9; simp only [up]; (repeat' split) <;> first | (subst_vars; exact hP) | rfl | (exfalso; omega)) | (rw [show i + 1 - 1 = i by omega]; first | rw [bub_y hi9.1 (by omega)] | rw [bub_n hi9.1 (by omega)])) ?_
  exact lp2 _ 1 (by omega) rfl
set_option maxRecDepth 100000 in
set_option maxHeartbeats 4000000 in
theorem c_Top_fillPool {l : Launch} {w : AW} {Q : Int → Int} {D : Int → Int → Int} {n mi hi set : Int} (hO : w 0 = eO 10 [aR 10, aR 18, aR 26, aI hi, aR 1, aR 34, aR 51, aR 52]) (hP : w 51 = eI 7 Q) (hC : CarAt w 10 D n mi) (hB : CarOK D n mi) (hs : 0 ≤ set ∧ set ≤ 127) : Call l m_Top_fillPool false 68 68 [aR 0, aI set] w (rt (some (aI ((filF D set Q n).1))) (up w 51 (eI 7 (filF D set Q n).2))) := by
  obtain ⟨hn, hD, hs0, hs1, hs2, hs3⟩ := id hB
  refine Call.of (L := [some (aR 0), some (aI set), none, none]) rfl (Nat.le_of_ble_eq_true rfl) rfl (fun G ad => ?_)
  refine j_iconst (pc' := 1) dX11_fillPool_0 rfl ?_
  refine j_istore_n (pc' := 2) (L' := [some (aR 0), some (aI set), some (aI 0), none]) dX11_fillPool_1 rfl (by decide) rfl ?_
  refine j_iconst (pc' := 3) dX11_fillPool_2 rfl ?_
  refine j_istore_n (pc' := 4) (L' := [some (aR 0), some (aI set), some (aI 0), some (aI 0)]) dX11_fillPool_3 rfl (by decide) rfl ?_
  have lp4 : ∀ (k9 : Nat) (m : Int) (R : Int → Int) (i : Int), (0 ≤ i ∧ i ≤ n) → (filF D set Q i = (m, R)) → ((n - i).toNat) = k9 → J l m_Top_fillPool ad G [] false (jZ ad G false 68 m_Top_fillPool.2.2.2.2.cells m_Top_fillPool.2.2.2.2.slots (rt (some (aI ((filF D set Q n).1))) (up w 51 (eI 7 (filF D set Q n).2)))) 68 0 0 4 [some (aR 0), some (aI set), some (aI m), some (aI i)] [] (up w 51 (eI 7 R)) := by
    intro k9
    induction k9 using Nat.strongRecOn with
    | _ k9 ih4 =>
      intro m R i hi9 hf hk4
      refine j_iload_n (pc' := 5) (z := i) dX11_fillPool_4 rfl rfl ?_
      refine j_aload_n (pc' := 6) (z := 0) dX11_fillPool_5 rfl rfl ?_
      refine j_get (pc' := 9) (v := aR 10) dX11_fillPool_6 rfl f_Top_42 (by omega) ((up_n (by omega)).trans hO) rfl ?_
      refine j_get (pc' := 12) (v := aI n) dX11_fillPool_9 rfl f_Top_203 (by omega) ((up_n (by omega)).trans hC.1) rfl ?_
      refine j_icmp_ge (tgt := 48) (pc' := 15) dX11_fillPool_12 (by decide) rfl (by omega) (by omega) (fun h12 => ?_) (fun h12 => ?_)
      · refine j_iload_n (pc' := 49) (z := m) dX11_fillPool_48 rfl rfl ?_
        exact j_iret dX11_fillPool_49 rfl (id (by rw [show n = i by omega, hf]; exact ⟨rfl, rfl⟩))
      · have hfi := fil_ok (D := D) (set := set) (Q := Q) hi9.1
        rw [hf] at hfi
        have hbt : bt set i = set / 2 ^ (Int.toNat i) % 2 ^ 1 := rfl
        have hmm : 0 ≤ m ∧ m ≤ i := hfi.2
        refine j_iload_n (pc' := 16) (z := set) dX11_fillPool_15 rfl rfl ?_
        refine j_iload_n (pc' := 17) (z := i) dX11_fillPool_16 rfl rfl ?_
        refine j_ishr (pc' := 18) dX11_fillPool_17 rfl (by omega) (by omega) ?_
        refine j_iconst (pc' := 19) dX11_fillPool_18 rfl ?_
        refine j_imask (pc' := 20) 1 dX11_fillPool_19 rfl (by decide) rfl ?_
        refine j_iconst (pc' := 21) dX11_fillPool_20 rfl ?_
        refine j_icmp_ne (tgt := 42) (pc' := 24) dX11_fillPool_21 (by decide) rfl (by omega) (by omega) (fun h21 => ?_) (fun h21 => ?_)
        · refine j_iinc (pc' := 45) (z := i) (L' := [some (aR 0), some (aI set), some (aI m), some (aI (i + 1))]) dX11_fillPool_42 rfl (by decide) rfl rfl rfl ?_
          refine j_goto (pc' := 4) dX11_fillPool_45 (by decide) ?_
          exact ih4 _ (by omega) m R (i + 1) (by omega) (by rw [fil_s (by omega), hf]; first | rw [if_pos (by omega)] | rw [if_neg (by omega)]) rfl
        · refine j_aload_n (pc' := 25) (z := 0) dX11_fillPool_24 rfl rfl ?_
          refine j_get (pc' := 28) (v := aR 51) dX11_fillPool_25 rfl f_Top_63 (by omega) ((up_n (by omega)).trans hO) rfl ?_
          refine j_iload_n (pc' := 29) (z := m) dX11_fillPool_28 rfl rfl ?_
          refine j_aload_n (pc' := 30) (z := 0) dX11_fillPool_29 rfl rfl ?_
          refine j_get (pc' := 33) (v := aR 10) dX11_fillPool_30 rfl f_Top_42 (by omega) ((up_n (by omega)).trans hO) rfl ?_
          refine j_get (pc' := 36) (v := aR (10 + 4)) dX11_fillPool_33 rfl f_Top_105 (by omega) ((up_n (by omega)).trans hC.1) rfl ?_
          refine j_iload_n (pc' := 37) (z := i) dX11_fillPool_36 rfl rfl ?_
          refine j_iald (pc' := 38) dX11_fillPool_37 rfl (by omega) ((up_n (by omega)).trans hC.2.2.2.2.1) (by omega) (by decide) ?_
          refine j_iast (pc' := 39) dX11_fillPool_38 rfl (by omega) up_s (by omega) (by decide) ?_
          refine j_w (w' := up w 51 (eI 7 (upi R m (D 3 i)))) (by funext j9; simp only [up]; (repeat' split) <;> first | rfl | (exfalso; omega)) ?_
          refine j_iinc (pc' := 42) (z := m) (L' := [some (aR 0), some (aI set), some (aI (m + 1)), some (aI i)]) dX11_fillPool_39 rfl (by decide) rfl rfl rfl ?_
          refine j_iinc (pc' := 45) (z := i) (L' := [some (aR 0), some (aI set), some (aI (m + 1)), some (aI (i + 1))]) dX11_fillPool_42 rfl (by decide) rfl rfl rfl ?_
          refine j_goto (pc' := 4) dX11_fillPool_45 (by decide) ?_
          exact ih4 _ (by omega) (m + 1) (upi R m (D 3 i)) (i + 1) (by omega) (by rw [fil_s (by omega), hf]; first | rw [if_pos (by omega)] | rw [if_neg (by omega)]) rfl
  refine j_w (w' := up w 51 (eI 7 Q)) (by funext j9; simp only [up]; (repeat' split) <;> first | rfl | (subst_vars; assumption) | (subst_vars; symm; assumption) | (exfalso; omega)) ?_
  exact lp4 _ 0 Q 0 (by omega) (by rfl) rfl
set_option maxRecDepth 100000 in
set_option maxHeartbeats 4000000 in
theorem c_Top_isSetOfParts {l : Launch} {w : AW} {D : Int → Int → Int} {n mi hi set : Int} (hO : w 0 = eO 10 [aR 10, aR 18, aR 26, aI hi, aR 1, aR 34, aR 51, aR 52]) (hC : CarAt w 10 D n mi) (hB : CarOK D n mi) (hs : inI set) : Call l m_Top_isSetOfParts false 68 68 [aR 0, aI set] w (rt (some (aB (1 ≤ set ∧ set < 2 ^ n.toNat))) w) := by
  obtain ⟨hn, hD, hs0, hs1, hs2, hs3⟩ := id hB
  refine Call.of (L := [some (aR 0), some (aI set)]) rfl (Nat.le_of_ble_eq_true rfl) rfl (fun G ad => ?_)
  refine j_iload_n (pc' := 1) (z := set) dX11_isSetOfParts_0 rfl rfl ?_
  refine j_iconst (pc' := 2) dX11_isSetOfParts_1 rfl ?_
  refine j_icmp_lt (tgt := 22) (pc' := 5) dX11_isSetOfParts_2 (by decide) rfl (by omega) (by omega) (fun h2 => ?_) (fun h2 => ?_)
  · refine j_iconst (pc' := 23) dX11_isSetOfParts_22 rfl ?_
    exact j_zret0 dX11_isSetOfParts_23 rfl (rt_b0 (by omega))
  · refine j_iload_n (pc' := 6) (z := set) dX11_isSetOfParts_5 rfl rfl ?_
    refine j_iconst (pc' := 7) dX11_isSetOfParts_6 rfl ?_
    refine j_aload_n (pc' := 8) (z := 0) dX11_isSetOfParts_7 rfl rfl ?_
    refine j_get (pc' := 11) (v := aR 10) dX11_isSetOfParts_8 rfl f_Top_42 (by omega) hO rfl ?_
    refine j_get (pc' := 14) (v := aI n) dX11_isSetOfParts_11 rfl f_Top_203 (by omega) hC.1 rfl ?_
    have hpw := pow7 (n := n) (by omega)
    refine j_ishl1 (pc' := 15) dX11_isSetOfParts_14 rfl (by omega) ?_
    refine j_icmp_ge (tgt := 22) (pc' := 18) dX11_isSetOfParts_15 (by decide) rfl (by omega) (by omega) (fun h15 => ?_) (fun h15 => ?_)
    · refine j_iconst (pc' := 23) dX11_isSetOfParts_22 rfl ?_
      exact j_zret0 dX11_isSetOfParts_23 rfl (rt_b0 (by omega))
    · refine j_iconst (pc' := 19) dX11_isSetOfParts_18 rfl ?_
      refine j_goto (pc' := 23) dX11_isSetOfParts_19 (by decide) ?_
      exact j_zret1 dX11_isSetOfParts_23 rfl (rt_b1 (by omega))
set_option maxRecDepth 100000 in
set_option maxHeartbeats 4000000 in
theorem c_Top_drivesByHalves {l : Launch} {w : AW} {Q : Int → Int} {D : Int → Int → Int} {n mi hi set : Int} (hO : w 0 = eO 10 [aR 10, aR 18, aR 26, aI hi, aR 1, aR 34, aR 51, aR 52]) (hP : w 51 = eI 7 Q) (hC : CarAt w 10 D n mi) (hB : CarOK D n mi) (hK : KindsAt w) (hs : 1 ≤ set ∧ set < 2 ^ n.toNat) : Call l m_Top_drivesByHalves false 68 68 [aR 0, aI set] w (fun r w9 => r = some (aI (halV D n set)) ∧ (0 ≤ halV D n set ∧ halV D n set ≤ 10000) ∧ ∃ Q9, w9 = up w 51 (eI 7 Q9)) := by
  obtain ⟨hn, hD, hs0, hs1, hs2, hs3⟩ := id hB
  have hpw := pow7 (n := n) (by omega)
  obtain ⟨hf1, hf2, hf3⟩ := fil_ok (D := D) (set := set) (Q := Q) hn.1
  have hwl := wl_len (D := D) hn.1 hs
  have hfl := fil_len (D := D) (set := set) (Q := Q) hn.1
  have hwb := wl_bd (set := set) hB
  refine Call.of (L := [some (aR 0), some (aI set), none, none]) rfl (Nat.le_of_ble_eq_true rfl) rfl (fun G ad => ?_)
  refine j_iconst (pc' := 1) dX11_drivesByHalves_0 rfl ?_
  refine j_istore_n (pc' := 2) (L' := [some (aR 0), some (aI set), some (aI 0), none]) dX11_drivesByHalves_1 rfl (by decide) rfl ?_
  refine j_aload_n (pc' := 3) (z := 0) dX11_drivesByHalves_2 rfl rfl ?_
  refine j_iload_n (pc' := 4) (z := set) dX11_drivesByHalves_3 rfl rfl ?_
  refine j_callV (pc' := 7) (as := [aI set]) (rest := []) dX11_drivesByHalves_4 rfl s_Top_265 (c_Top_fillPool hO hP hC hB (by omega)) (by omega) hO rfl rfl rfl rfl (jdet (st' := [aI ((filF D set Q n).1)]) rfl ?_)
  refine j_istore_n (pc' := 8) (L' := [some (aR 0), some (aI set), some (aI 0), some (aI ((filF D set Q n).1))]) dX11_drivesByHalves_7 rfl (by decide) rfl ?_
  have lp8 : ∀ (k9 : Nat) (v : Int) (m : Int) (P : Int → Int), (1 ≤ m ∧ m ≤ 7) → (0 ≤ v ∧ v ≤ (7 - m) * 1200) → (∀ x ∈ pls P m, 0 ≤ x ∧ x ≤ bB m) → (∀ c, HC (m - 1).toNat (pls P m) c → HC ((wl D set n).length - 1) (wl D set n) (v + c)) → ((8 - (8 - m)).toNat) = k9 → J l m_Top_drivesByHalves ad G [] false (jZ ad G false 68 m_Top_drivesByHalves.2.2.2.2.cells m_Top_drivesByHalves.2.2.2.2.slots (fun r w9 => r = some (aI (halV D n set)) ∧ (0 ≤ halV D n set ∧ halV D n set ≤ 10000) ∧ ∃ Q9, w9 = up w 51 (eI 7 Q9))) 68 0 0 8 [some (aR 0), some (aI set), some (aI v), some (aI m)] [] (up w 51 (eI 7 P)) := by
    intro k9
    induction k9 using Nat.strongRecOn with
    | _ k9 ih8 =>
      intro v m P hm hvb hPB hH hk8
      refine j_iload_n (pc' := 9) (z := m) dX11_drivesByHalves_8 rfl rfl ?_
      refine j_iconst (pc' := 10) dX11_drivesByHalves_9 rfl ?_
      refine j_icmp_le (tgt := 61) (pc' := 13) dX11_drivesByHalves_10 (by decide) rfl (by omega) (by omega) (fun h10 => ?_) (fun h10 => ?_)
      · refine j_iload_n (pc' := 62) (z := v) dX11_drivesByHalves_61 rfl rfl ?_
        exact j_iret dX11_drivesByHalves_62 rfl (id (by have hm1 : m = 1 := (by omega); subst hm1; have e9 := halV_eq (hH 0 ⟨⟨P 0, rfl⟩, rfl⟩); rw [Int.add_zero] at e9; exact ⟨by rw [e9], by omega, P, rfl⟩))
      · have hBb := bB_bd (m := m)
        have hBs := bB_s (m := m) (by omega)
        have hPb : ∀ x ∈ pls P m, 0 ≤ x ∧ x ≤ 1000 := fun x hx => by have := hPB x hx; omega
        have hjb := joi_bd (Q := P) (m := m) (by omega) hPB
        have hPb2 : ∀ x ∈ pls (bub 1 P m) (m - 1), 0 ≤ x ∧ x ≤ 1000 := fun x hx => bub_bd (by omega) hPb x (pls_mem.mpr (by obtain ⟨j, h1, h2⟩ := pls_mem.mp hx; exact ⟨j, by omega, h2⟩))
        refine j_aload_n (pc' := 14) (z := 0) dX11_drivesByHalves_13 rfl rfl ?_
        refine j_iload_n (pc' := 15) (z := m) dX11_drivesByHalves_14 rfl rfl ?_
        refine j_callV (pc' := 18) (as := [aI m]) (rest := []) dX11_drivesByHalves_15 rfl s_Top_268 (c_Top_moveLeastToEnd ((up_n (by omega)).trans hO) up_s (by omega) hPb) (by omega) ((up_n (by omega)).trans hO) rfl rfl rfl rfl (jdet (st' := []) rfl ?_)
        refine j_w (w' := up w 51 (eI 7 (bub 1 P m))) (by funext j9; simp only [up]; (repeat' split) <;> first | rfl | (exfalso; omega)) ?_
        refine j_aload_n (pc' := 19) (z := 0) dX11_drivesByHalves_18 rfl rfl ?_
        refine j_iload_n (pc' := 20) (z := m) dX11_drivesByHalves_19 rfl rfl ?_
        refine j_iconst (pc' := 21) dX11_drivesByHalves_20 rfl ?_
        refine j_isub (pc' := 22) dX11_drivesByHalves_21 rfl ?_
        refine j_callV (pc' := 25) (as := [aI (m - 1)]) (rest := []) dX11_drivesByHalves_22 rfl s_Top_268 (c_Top_moveLeastToEnd ((up_n (by omega)).trans hO) up_s (by omega) hPb2) (by omega) ((up_n (by omega)).trans hO) rfl rfl rfl rfl (jdet (st' := []) rfl ?_)
        refine j_w (w' := up w 51 (eI 7 (bub 1 (bub 1 P m) (m - 1)))) (by funext j9; simp only [up]; (repeat' split) <;> first | rfl | (exfalso; omega)) ?_
        refine j_aload_n (pc' := 26) (z := 0) dX11_drivesByHalves_25 rfl rfl ?_
        refine j_get (pc' := 29) (v := aR 51) dX11_drivesByHalves_26 rfl f_Top_63 (by omega) ((up_n (by omega)).trans hO) rfl ?_
        refine j_iload_n (pc' := 30) (z := m) dX11_drivesByHalves_29 rfl rfl ?_
        refine j_iconst (pc' := 31) dX11_drivesByHalves_30 rfl ?_
        refine j_isub (pc' := 32) dX11_drivesByHalves_31 rfl ?_
        refine j_dup2 (pc' := 33) dX11_drivesByHalves_32 rfl rfl rfl ?_
        refine j_iald (pc' := 34) dX11_drivesByHalves_33 rfl (by omega) up_s (by omega) (by decide) ?_
        refine j_aload_n (pc' := 35) (z := 0) dX11_drivesByHalves_34 rfl rfl ?_
        refine j_get (pc' := 38) (v := aR 51) dX11_drivesByHalves_35 rfl f_Top_63 (by omega) ((up_n (by omega)).trans hO) rfl ?_
        refine j_iload_n (pc' := 39) (z := m) dX11_drivesByHalves_38 rfl rfl ?_
        refine j_iconst (pc' := 40) dX11_drivesByHalves_39 rfl ?_
        refine j_isub (pc' := 41) dX11_drivesByHalves_40 rfl ?_
        refine j_iald (pc' := 42) dX11_drivesByHalves_41 rfl (by omega) up_s (by omega) (by decide) ?_
        refine j_iadd (pc' := 43) dX11_drivesByHalves_42 rfl ?_
        refine j_iast (pc' := 44) dX11_drivesByHalves_43 rfl (by omega) up_s (by omega) (by decide) ?_
        refine j_w (w' := up w 51 (eI 7 (upi (bub 1 (bub 1 P m) (m - 1)) (m - 2) ((bub 1 (bub 1 P m) (m - 1) (m - 2)) + (bub 1 (bub 1 P m) (m - 1) (m - 1)))))) (by funext j9; simp only [up]; (repeat' split) <;> first | rfl | (exfalso; omega)) ?_
        refine j_iload_n (pc' := 45) (z := v) dX11_drivesByHalves_44 rfl rfl ?_
        refine j_aload_n (pc' := 46) (z := 0) dX11_drivesByHalves_45 rfl rfl ?_
        refine j_get (pc' := 49) (v := aR 51) dX11_drivesByHalves_46 rfl f_Top_63 (by omega) ((up_n (by omega)).trans hO) rfl ?_
        refine j_iload_n (pc' := 50) (z := m) dX11_drivesByHalves_49 rfl rfl ?_
        refine j_iconst (pc' := 51) dX11_drivesByHalves_50 rfl ?_
        refine j_isub (pc' := 52) dX11_drivesByHalves_51 rfl ?_
        refine j_iald (pc' := 53) dX11_drivesByHalves_52 rfl (by omega) up_s (by omega) (by decide) ?_
        refine j_iadd (pc' := 54) dX11_drivesByHalves_53 rfl ?_
        refine j_istore_n (pc' := 55) (L' := [some (aR 0), some (aI set), some (aI (v + ((upi (bub 1 (bub 1 P m) (m - 1)) (m - 2) ((bub 1 (bub 1 P m) (m - 1) (m - 2)) + (bub 1 (bub 1 P m) (m - 1) (m - 1)))) (m - 2)))), some (aI m)]) dX11_drivesByHalves_54 rfl (by decide) rfl ?_
        refine j_iinc (pc' := 58) (z := m) (L' := [some (aR 0), some (aI set), some (aI (v + ((upi (bub 1 (bub 1 P m) (m - 1)) (m - 2) ((bub 1 (bub 1 P m) (m - 1) (m - 2)) + (bub 1 (bub 1 P m) (m - 1) (m - 1)))) (m - 2)))), some (aI (m + (-1)))]) dX11_drivesByHalves_55 rfl (by decide) rfl rfl rfl ?_
        refine j_goto (pc' := 8) dX11_drivesByHalves_58 (by decide) ?_
        refine j_w (w' := up w 51 (eI 7 (joi P m))) (by funext j9; simp only [up]; (repeat' split) <;> first | rfl | (subst_vars; assumption) | (subst_vars; symm; assumption) | (exfalso; omega)) ?_
        exact ih8 _ (by omega) (v + joi P m (m - 2)) (m + (-1)) (joi P m) (by omega) (by omega) (by rw [show m + (-1) = m - 1 by omega, ← bB_s (by omega)]; exact hjb.1) (by intro c9 hc9; rw [show m + (-1) - 1 = m - 2 by omega, show m + (-1) = m - 1 by omega] at hc9; have h9 := hH _ (joi_HC (by omega) hc9); rw [show v + joi P m (m - 2) + c9 = v + (c9 + joi P m (m - 2)) by omega]; exact h9) rfl
  exact lp8 _ 0 ((filF D set Q n).1) ((filF D set Q n).2) (by omega) (by omega) (by rw [hf1]; intro x9 hx9; have := hwb x9 hx9; have := bB_bd (m := (filF D set Q n).1); omega) (by intro c9 hc9; rw [hf1] at hc9; rw [show (wl D set n).length - 1 = ((filF D set Q n).1 - 1).toNat by omega, Int.zero_add]; exact hc9) rfl
set_option maxRecDepth 100000 in
set_option maxHeartbeats 4000000 in
theorem c_Top_drivesOneByOne {l : Launch} {w : AW} {Q : Int → Int} {D : Int → Int → Int} {n mi hi set : Int} (hO : w 0 = eO 10 [aR 10, aR 18, aR 26, aI hi, aR 1, aR 34, aR 51, aR 52]) (hP : w 51 = eI 7 Q) (hC : CarAt w 10 D n mi) (hB : CarOK D n mi) (hK : KindsAt w) (hs : 1 ≤ set ∧ set < 2 ^ n.toNat) : Call l m_Top_drivesOneByOne false 68 68 [aR 0, aI set] w (fun r w9 => r = some (aI (oboV D n set)) ∧ (0 ≤ oboV D n set ∧ oboV D n set ≤ 10000) ∧ ∃ Q9, w9 = up w 51 (eI 7 Q9)) := by
  obtain ⟨hn, hD, hs0, hs1, hs2, hs3⟩ := id hB
  have hpw := pow7 (n := n) (by omega)
  obtain ⟨hf1, hf2, hf3⟩ := fil_ok (D := D) (set := set) (Q := Q) hn.1
  have hwl := wl_len (D := D) hn.1 hs
  have hfl := fil_len (D := D) (set := set) (Q := Q) hn.1
  have hwb := wl_bd (set := set) hB
  have hws := wts_bd (set := set) hB
  refine Call.of (L := [some (aR 0), some (aI set), none, none, none]) rfl (Nat.le_of_ble_eq_true rfl) rfl (fun G ad => ?_)
  refine j_aload_n (pc' := 1) (z := 0) dX11_drivesOneByOne_0 rfl rfl ?_
  refine j_get (pc' := 4) (v := aR 10) dX11_drivesOneByOne_1 rfl f_Top_42 (by omega) hO rfl ?_
  refine j_iload_n (pc' := 5) (z := set) dX11_drivesOneByOne_4 rfl rfl ?_
  refine j_callV (pc' := 8) (as := [aI set]) (rest := []) dX11_drivesOneByOne_5 rfl s_Top_210 (c_Car_weightOf hC hB hK (by omega) (by omega)) (by omega) hC.1 rfl rfl rfl rfl (jdet (st' := [aI (wts D n set)]) rfl ?_)
  refine j_istore_n (pc' := 9) (L' := [some (aR 0), some (aI set), some (aI (wts D n set)), none, none]) dX11_drivesOneByOne_8 rfl (by decide) rfl ?_
  refine j_iconst (pc' := 10) dX11_drivesOneByOne_9 rfl ?_
  refine j_istore_n (pc' := 11) (L' := [some (aR 0), some (aI set), some (aI (wts D n set)), some (aI 0), none]) dX11_drivesOneByOne_10 rfl (by decide) rfl ?_
  refine j_aload_n (pc' := 12) (z := 0) dX11_drivesOneByOne_11 rfl rfl ?_
  refine j_iload_n (pc' := 13) (z := set) dX11_drivesOneByOne_12 rfl rfl ?_
  refine j_callV (pc' := 16) (as := [aI set]) (rest := []) dX11_drivesOneByOne_13 rfl s_Top_265 (c_Top_fillPool hO hP hC hB (by omega)) (by omega) hO rfl rfl rfl rfl (jdet (st' := [aI ((filF D set Q n).1)]) rfl ?_)
  refine j_istore (pc' := 18) (L' := [some (aR 0), some (aI set), some (aI (wts D n set)), some (aI 0), some (aI ((filF D set Q n).1))]) dX11_drivesOneByOne_16 rfl (by decide) rfl ?_
  have lp18 : ∀ (k9 : Nat) (x : Int) (v : Int) (m : Int) (P : Int → Int), (1 ≤ m ∧ m ≤ 7) → (0 ≤ v ∧ v ≤ (7 - m) * 63) → (x = lsum (pls P m)) → (0 ≤ x ∧ x ≤ 63) → (∀ x ∈ pls P m, 0 ≤ x ∧ x ≤ 9) → (∀ c, OB (m - 1).toNat (pls P m) c → OB ((wl D set n).length - 1) (wl D set n) (v + c)) → ((8 - (8 - m)).toNat) = k9 → J l m_Top_drivesOneByOne ad G [] false (jZ ad G false 68 m_Top_drivesOneByOne.2.2.2.2.cells m_Top_drivesOneByOne.2.2.2.2.slots (fun r w9 => r = some (aI (oboV D n set)) ∧ (0 ≤ oboV D n set ∧ oboV D n set ≤ 10000) ∧ ∃ Q9, w9 = up w 51 (eI 7 Q9))) 68 0 0 18 [some (aR 0), some (aI set), some (aI x), some (aI v), some (aI m)] [] (up w 51 (eI 7 P)) := by
    intro k9
    induction k9 using Nat.strongRecOn with
    | _ k9 ih18 =>
      intro x v m P hm hvb hx hxb hPB hH hk18
      refine j_iload (pc' := 20) (z := m) dX11_drivesOneByOne_18 rfl rfl ?_
      refine j_iconst (pc' := 21) dX11_drivesOneByOne_20 rfl ?_
      refine j_icmp_le (tgt := 52) (pc' := 24) dX11_drivesOneByOne_21 (by decide) rfl (by omega) (by omega) (fun h21 => ?_) (fun h21 => ?_)
      · refine j_iload_n (pc' := 53) (z := v) dX11_drivesOneByOne_52 rfl rfl ?_
        exact j_iret dX11_drivesOneByOne_53 rfl (id (by have hm1 : m = 1 := (by omega); subst hm1; have e9 := oboV_eq (hH 0 ⟨⟨P 0, rfl⟩, rfl⟩); rw [Int.add_zero] at e9; exact ⟨by rw [e9], by omega, P, rfl⟩))
      · have hPb : ∀ x ∈ pls P m, 0 ≤ x ∧ x ≤ 1000 := fun x hx => by have := hPB x hx; omega
        have hob2 := obo_sm (Q := P) (m := m) (by omega)
        have hg9 : 0 ≤ bub (-1) P m (m - 1) ∧ bub (-1) P m (m - 1) ≤ 9 := bub_bd (by omega) hPB _ (pls_mem.mpr ⟨m - 1, by omega, rfl⟩)
        have hsn := lsum_pos (l := pls (bub (-1) P m) (m - 1)) (fun x9 hx9 => (bub_bd (by omega) hPB x9 (pls_mem.mpr (by obtain ⟨j, h1, h2⟩ := pls_mem.mp hx9; exact ⟨j, by omega, h2⟩))).1)
        refine j_iload_n (pc' := 25) (z := v) dX11_drivesOneByOne_24 rfl rfl ?_
        refine j_iload_n (pc' := 26) (z := x) dX11_drivesOneByOne_25 rfl rfl ?_
        refine j_iadd (pc' := 27) dX11_drivesOneByOne_26 rfl ?_
        refine j_istore_n (pc' := 28) (L' := [some (aR 0), some (aI set), some (aI x), some (aI (v + x)), some (aI m)]) dX11_drivesOneByOne_27 rfl (by decide) rfl ?_
        refine j_aload_n (pc' := 29) (z := 0) dX11_drivesOneByOne_28 rfl rfl ?_
        refine j_iload (pc' := 31) (z := m) dX11_drivesOneByOne_29 rfl rfl ?_
        refine j_callV (pc' := 34) (as := [aI m]) (rest := []) dX11_drivesOneByOne_31 rfl s_Top_271 (c_Top_moveGreatestToEnd ((up_n (by omega)).trans hO) up_s (by omega) hPb) (by omega) ((up_n (by omega)).trans hO) rfl rfl rfl rfl (jdet (st' := []) rfl ?_)
        refine j_w (w' := up w 51 (eI 7 (bub (-1) P m))) (by funext j9; simp only [up]; (repeat' split) <;> first | rfl | (exfalso; omega)) ?_
        refine j_iload_n (pc' := 35) (z := x) dX11_drivesOneByOne_34 rfl rfl ?_
        refine j_aload_n (pc' := 36) (z := 0) dX11_drivesOneByOne_35 rfl rfl ?_
        refine j_get (pc' := 39) (v := aR 51) dX11_drivesOneByOne_36 rfl f_Top_63 (by omega) ((up_n (by omega)).trans hO) rfl ?_
        refine j_iload (pc' := 41) (z := m) dX11_drivesOneByOne_39 rfl rfl ?_
        refine j_iconst (pc' := 42) dX11_drivesOneByOne_41 rfl ?_
        refine j_isub (pc' := 43) dX11_drivesOneByOne_42 rfl ?_
        refine j_iald (pc' := 44) dX11_drivesOneByOne_43 rfl (by omega) up_s (by omega) (by decide) ?_
        refine j_isub (pc' := 45) dX11_drivesOneByOne_44 rfl ?_
        refine j_istore_n (pc' := 46) (L' := [some (aR 0), some (aI set), some (aI (x - (bub (-1) P m (m - 1)))), some (aI (v + x)), some (aI m)]) dX11_drivesOneByOne_45 rfl (by decide) rfl ?_
        refine j_iinc (pc' := 49) (z := m) (L' := [some (aR 0), some (aI set), some (aI (x - (bub (-1) P m (m - 1)))), some (aI (v + x)), some (aI (m + (-1)))]) dX11_drivesOneByOne_46 rfl (by decide) rfl rfl rfl ?_
        refine j_goto (pc' := 18) dX11_drivesOneByOne_49 (by decide) ?_
        exact ih18 _ (by omega) (x - (bub (-1) P m (m - 1))) (v + x) (m + (-1)) (bub (-1) P m) (by omega) (by omega) (by rw [show m + (-1) = m - 1 by omega, hob2, hx]) (by omega) (by rw [show m + (-1) = m - 1 by omega]; intro x9 hx9; exact bub_bd (by omega) hPB x9 (pls_mem.mpr (by obtain ⟨j, h1, h2⟩ := pls_mem.mp hx9; exact ⟨j, by omega, h2⟩))) (by intro c9 hc9; rw [show m + (-1) - 1 = m - 2 by omega, show m + (-1) = m - 1 by omega] at hc9; have h9 := hH _ (obo_ok (by omega) hc9).1; rw [← hx] at h9; rw [show v + x + c9 = v + (c9 + x) by omega]; exact h9) rfl
  exact lp18 _ (wts D n set) 0 ((filF D set Q n).1) ((filF D set Q n).2) (by omega) (by omega) (by rw [hf1, wl_sum hn.1]) (by omega) (by rw [hf1]; exact hwb) (by intro c9 hc9; rw [hf1] at hc9; rw [show (wl D set n).length - 1 = ((filF D set Q n).1 - 1).toNat by omega, Int.zero_add]; exact hc9) rfl
set_option maxRecDepth 100000 in
set_option maxHeartbeats 4000000 in
theorem c_Top_halves {l : Launch} {w : AW} {D Di : Int → Int → Int} {n mi hi ni mj : Int} {sh E : Int → Int → Int} {set p : Int} (hW : Comp w D n mi hi Di ni mj sh E) (hB : CarOK D n mi) (hI : CarOK Di ni mj) (hhi : hi = 0 ∨ hi = 1) (hsh : ShOK sh E) (hset : inI set) (hp : inI p) : Call l m_Top_halves false 68 68 [aR 0, aI set, aI p] w (jCL w (halvesA D n set p) D n mi hi Di ni mj sh E) := by
  have hT := TS.rf hW
  obtain ⟨hO, hK, hC, ⟨Dt, nt, mt, hCt⟩, hCi, hS34, hSh, ⟨po, hPo⟩, ⟨di, hDi⟩⟩ := hW
  obtain ⟨hn, hD, hs0, hs1, hs2, hs3⟩ := id hB
  refine Call.of (L := [some (aR 0), some (aI set), some (aI p)]) rfl (Nat.le_of_ble_eq_true rfl) rfl (fun G ad => ?_)
  refine j_aload_n (pc' := 1) (z := 0) dX11_halves_0 rfl rfl ?_
  refine j_iload_n (pc' := 2) (z := set) dX11_halves_1 rfl rfl ?_
  refine j_callV (pc' := 5) (as := [aI set]) (rest := []) dX11_halves_2 rfl s_Top_221 (c_Top_isSetOfParts hO hC hB (by omega)) (by omega) hO rfl rfl rfl rfl (jdet (st' := [aB (1 ≤ set ∧ set < 2 ^ n.toNat)]) rfl ?_)
  refine j_ifb_eq (tgt := 15) (pc' := 8) dX11_halves_5 (by decide) rfl (fun h5 => ?_) (fun h5 => ?_)
  · refine j_iconst (pc' := 16) dX11_halves_15 rfl ?_
    refine j_callS (pc' := 19) (as := [aI (-1)]) (rest := []) dX11_halves_16 rfl s_Top_224 (c_ofLongs (by omega)) rfl rfl rfl (jdet (st' := [aL (-1000000000 + (-1))]) rfl ?_)
    exact j_lret dX11_halves_19 rfl (jCL_of (by rw [halvesA_n (by omega)]; rfl) hT)
  · refine j_iload_n (pc' := 9) (z := p) dX11_halves_8 rfl rfl ?_
    refine j_callS (pc' := 12) (as := [aI p]) (rest := []) dX11_halves_9 rfl s_Top_173 (c_isEither (by omega)) rfl rfl rfl (jdet (st' := [aB (0 ≤ p ∧ p ≤ 1)]) rfl ?_)
    refine j_ifb_ne (tgt := 20) (pc' := 15) dX11_halves_12 (by decide) rfl (fun h12 => ?_) (fun h12 => ?_)
    · have hpw := pow7 (n := n) (by omega)
      refine j_aload_n (pc' := 21) (z := 0) dX11_halves_20 rfl rfl ?_
      refine j_iload_n (pc' := 22) (z := set) dX11_halves_21 rfl rfl ?_
      refine j_callV (pc' := 25) (as := [aI set]) (rest := []) dX11_halves_22 rfl s_Top_228 (c_Top_drivesByHalves hO hPo hC hB hK (by omega)) (by omega) hO rfl rfl rfl rfl (fun r9 w9 h9 => ?_)
      obtain ⟨rfl, hvb1, Q1, rfl⟩ := h9
      have hws := wts_bd (set := set) hB
      have hpw := pow7 (n := n) (by omega)
      refine j_i2l (pc' := 26) dX11_halves_25 rfl (by omega) ?_
      refine j_st (st' := [aL (halV D n set)]) rfl ?_
      refine j_aload_n (pc' := 27) (z := 0) dX11_halves_26 rfl rfl ?_
      refine j_get (pc' := 30) (v := aR 10) dX11_halves_27 rfl f_Top_42 (by omega) ((up_n (by omega)).trans hO) rfl ?_
      refine j_iload_n (pc' := 31) (z := set) dX11_halves_30 rfl rfl ?_
      refine j_callV (pc' := 34) (as := [aI set]) (rest := [aL (halV D n set)]) dX11_halves_31 rfl s_Top_210 (c_Car_weightOf (CarAt_up hC (by omega)) hB (KindsAt_up0 hK (by omega)) (by omega) (by omega)) (by omega) ((up_n (by omega)).trans hC.1) rfl rfl rfl rfl (jdet (st' := [aI (wts D n set), aL (halV D n set)]) rfl ?_)
      refine j_i2l (pc' := 35) dX11_halves_34 rfl (by omega) ?_
      refine j_iload_n (pc' := 36) (z := p) dX11_halves_35 rfl rfl ?_
      refine j_callS (pc' := 39) (as := [aL (halV D n set), aL (wts D n set), aI p]) (rest := []) dX11_halves_36 rfl s_Top_231 (c_Top_inLeastTerms (by omega) (by omega) (by omega)) rfl rfl rfl (jdet (st' := [aL (lowT (halV D n set) (wts D n set) p)]) rfl ?_)
      exact j_lret dX11_halves_39 rfl (jCL_of (by unfold halvesA; rw [if_pos (by omega)]) hT.pool)
    · refine j_iconst (pc' := 16) dX11_halves_15 rfl ?_
      refine j_callS (pc' := 19) (as := [aI (-1)]) (rest := []) dX11_halves_16 rfl s_Top_224 (c_ofLongs (by omega)) rfl rfl rfl (jdet (st' := [aL (-1000000000 + (-1))]) rfl ?_)
      exact j_lret dX11_halves_19 rfl (jCL_of (by rw [halvesA_n (by omega)]; rfl) hT)
set_option maxRecDepth 100000 in
set_option maxHeartbeats 4000000 in
theorem c_Top_oneByOne {l : Launch} {w : AW} {D Di : Int → Int → Int} {n mi hi ni mj : Int} {sh E : Int → Int → Int} {set p : Int} (hW : Comp w D n mi hi Di ni mj sh E) (hB : CarOK D n mi) (hI : CarOK Di ni mj) (hhi : hi = 0 ∨ hi = 1) (hsh : ShOK sh E) (hset : inI set) (hp : inI p) : Call l m_Top_oneByOne false 68 68 [aR 0, aI set, aI p] w (jCL w (oneA D n set p) D n mi hi Di ni mj sh E) := by
  have hT := TS.rf hW
  obtain ⟨hO, hK, hC, ⟨Dt, nt, mt, hCt⟩, hCi, hS34, hSh, ⟨po, hPo⟩, ⟨di, hDi⟩⟩ := hW
  obtain ⟨hn, hD, hs0, hs1, hs2, hs3⟩ := id hB
  refine Call.of (L := [some (aR 0), some (aI set), some (aI p)]) rfl (Nat.le_of_ble_eq_true rfl) rfl (fun G ad => ?_)
  refine j_aload_n (pc' := 1) (z := 0) dX11_oneByOne_0 rfl rfl ?_
  refine j_iload_n (pc' := 2) (z := set) dX11_oneByOne_1 rfl rfl ?_
  refine j_callV (pc' := 5) (as := [aI set]) (rest := []) dX11_oneByOne_2 rfl s_Top_221 (c_Top_isSetOfParts hO hC hB (by omega)) (by omega) hO rfl rfl rfl rfl (jdet (st' := [aB (1 ≤ set ∧ set < 2 ^ n.toNat)]) rfl ?_)
  refine j_ifb_eq (tgt := 15) (pc' := 8) dX11_oneByOne_5 (by decide) rfl (fun h5 => ?_) (fun h5 => ?_)
  · refine j_iconst (pc' := 16) dX11_oneByOne_15 rfl ?_
    refine j_callS (pc' := 19) (as := [aI (-1)]) (rest := []) dX11_oneByOne_16 rfl s_Top_224 (c_ofLongs (by omega)) rfl rfl rfl (jdet (st' := [aL (-1000000000 + (-1))]) rfl ?_)
    exact j_lret dX11_oneByOne_19 rfl (jCL_of (by rw [oneA_n (by omega)]; rfl) hT)
  · refine j_iload_n (pc' := 9) (z := p) dX11_oneByOne_8 rfl rfl ?_
    refine j_callS (pc' := 12) (as := [aI p]) (rest := []) dX11_oneByOne_9 rfl s_Top_173 (c_isEither (by omega)) rfl rfl rfl (jdet (st' := [aB (0 ≤ p ∧ p ≤ 1)]) rfl ?_)
    refine j_ifb_ne (tgt := 20) (pc' := 15) dX11_oneByOne_12 (by decide) rfl (fun h12 => ?_) (fun h12 => ?_)
    · have hpw := pow7 (n := n) (by omega)
      refine j_aload_n (pc' := 21) (z := 0) dX11_oneByOne_20 rfl rfl ?_
      refine j_iload_n (pc' := 22) (z := set) dX11_oneByOne_21 rfl rfl ?_
      refine j_callV (pc' := 25) (as := [aI set]) (rest := []) dX11_oneByOne_22 rfl s_Top_235 (c_Top_drivesOneByOne hO hPo hC hB hK (by omega)) (by omega) hO rfl rfl rfl rfl (fun r9 w9 h9 => ?_)
      obtain ⟨rfl, hvb1, Q1, rfl⟩ := h9
      have hws := wts_bd (set := set) hB
      have hpw := pow7 (n := n) (by omega)
      refine j_i2l (pc' := 26) dX11_oneByOne_25 rfl (by omega) ?_
      refine j_st (st' := [aL (oboV D n set)]) rfl ?_
      refine j_aload_n (pc' := 27) (z := 0) dX11_oneByOne_26 rfl rfl ?_
      refine j_get (pc' := 30) (v := aR 10) dX11_oneByOne_27 rfl f_Top_42 (by omega) ((up_n (by omega)).trans hO) rfl ?_
      refine j_iload_n (pc' := 31) (z := set) dX11_oneByOne_30 rfl rfl ?_
      refine j_callV (pc' := 34) (as := [aI set]) (rest := [aL (oboV D n set)]) dX11_oneByOne_31 rfl s_Top_210 (c_Car_weightOf (CarAt_up hC (by omega)) hB (KindsAt_up0 hK (by omega)) (by omega) (by omega)) (by omega) ((up_n (by omega)).trans hC.1) rfl rfl rfl rfl (jdet (st' := [aI (wts D n set), aL (oboV D n set)]) rfl ?_)
      refine j_i2l (pc' := 35) dX11_oneByOne_34 rfl (by omega) ?_
      refine j_iload_n (pc' := 36) (z := p) dX11_oneByOne_35 rfl rfl ?_
      refine j_callS (pc' := 39) (as := [aL (oboV D n set), aL (wts D n set), aI p]) (rest := []) dX11_oneByOne_36 rfl s_Top_231 (c_Top_inLeastTerms (by omega) (by omega) (by omega)) rfl rfl rfl (jdet (st' := [aL (lowT (oboV D n set) (wts D n set) p)]) rfl ?_)
      exact j_lret dX11_oneByOne_39 rfl (jCL_of (by unfold oneA; rw [if_pos (by omega)]) hT.pool)
    · refine j_iconst (pc' := 16) dX11_oneByOne_15 rfl ?_
      refine j_callS (pc' := 19) (as := [aI (-1)]) (rest := []) dX11_oneByOne_16 rfl s_Top_224 (c_ofLongs (by omega)) rfl rfl rfl (jdet (st' := [aL (-1000000000 + (-1))]) rfl ?_)
      exact j_lret dX11_oneByOne_19 rfl (jCL_of (by rw [oneA_n (by omega)]; rfl) hT)
set_option maxRecDepth 100000 in
set_option maxHeartbeats 4000000 in
theorem c_Top_worse {l : Launch} {w : AW} {D Di : Int → Int → Int} {n mi hi ni mj : Int} {sh E : Int → Int → Int} {set : Int} (hW : Comp w D n mi hi Di ni mj sh E) (hB : CarOK D n mi) (hI : CarOK Di ni mj) (hhi : hi = 0 ∨ hi = 1) (hsh : ShOK sh E) (hset : inI set) : Call l m_Top_worse false 68 68 [aR 0, aI set] w (jC w (worseA D n set) D n mi hi Di ni mj sh E) := by
  have hT := TS.rf hW
  obtain ⟨hO, hK, hC, ⟨Dt, nt, mt, hCt⟩, hCi, hS34, hSh, ⟨po, hPo⟩, ⟨di, hDi⟩⟩ := hW
  obtain ⟨hn, hD, hs0, hs1, hs2, hs3⟩ := id hB
  refine Call.of (L := [some (aR 0), some (aI set)]) rfl (Nat.le_of_ble_eq_true rfl) rfl (fun G ad => ?_)
  refine j_aload_n (pc' := 1) (z := 0) dX11_worse_0 rfl rfl ?_
  refine j_iload_n (pc' := 2) (z := set) dX11_worse_1 rfl rfl ?_
  refine j_callV (pc' := 5) (as := [aI set]) (rest := []) dX11_worse_2 rfl s_Top_221 (c_Top_isSetOfParts hO hC hB (by omega)) (by omega) hO rfl rfl rfl rfl (jdet (st' := [aB (1 ≤ set ∧ set < 2 ^ n.toNat)]) rfl ?_)
  refine j_ifb_ne (tgt := 10) (pc' := 8) dX11_worse_5 (by decide) rfl (fun h5 => ?_) (fun h5 => ?_)
  · have hpw := pow7 (n := n) (by omega)
    refine j_aload_n (pc' := 11) (z := 0) dX11_worse_10 rfl rfl ?_
    refine j_iload_n (pc' := 12) (z := set) dX11_worse_11 rfl rfl ?_
    refine j_callV (pc' := 15) (as := [aI set]) (rest := []) dX11_worse_12 rfl s_Top_235 (c_Top_drivesOneByOne hO hPo hC hB hK (by omega)) (by omega) hO rfl rfl rfl rfl (fun r9 w9 h9 => ?_)
    obtain ⟨rfl, hvb1, Q1, rfl⟩ := h9
    refine j_aload_n (pc' := 16) (z := 0) dX11_worse_15 rfl rfl ?_
    refine j_iload_n (pc' := 17) (z := set) dX11_worse_16 rfl rfl ?_
    refine j_callV (pc' := 20) (as := [aI set]) (rest := [aI (oboV D n set)]) dX11_worse_17 rfl s_Top_228 (c_Top_drivesByHalves ((up_n (by omega)).trans hO) up_s (CarAt_up hC (by omega)) hB (KindsAt_up0 hK (by omega)) (by omega)) (by omega) ((up_n (by omega)).trans hO) rfl rfl rfl rfl (fun r9 w9 h9 => ?_)
    obtain ⟨rfl, hvb2, Q2, rfl⟩ := h9
    refine j_w (w' := up w 51 (eI 7 Q2)) (by funext j9; simp only [up]; (repeat' split) <;> first | rfl | (exfalso; omega)) ?_
    refine j_isub (pc' := 21) dX11_worse_20 rfl ?_
    exact j_iret dX11_worse_21 rfl (jC_of (by unfold worseA; rw [if_pos (by omega)]) hT.pool)
  · refine j_iconst (pc' := 9) dX11_worse_8 rfl ?_
    exact j_iret dX11_worse_9 rfl (jC_of (by unfold worseA; rw [if_neg (by omega)]) hT)
