theorem s_Law_201 : SiteVH "RattleAtFiftyLaw" 201 m_Top_toss hhT 1 := ⟨gt_ps [829, 826, 827, 828, 41] (by decide +kernel) (by decide +kernel), by unfold dOK; decide +kernel⟩
theorem s_Law_183 : SiteSH "RattleAtFiftyLaw" 183 m_Law_element hhL 4 := ⟨gt_ps [947, 945, 946, 40] (by decide +kernel) (by decide +kernel), by unfold dOK; decide +kernel⟩
set_option maxRecDepth 100000 in
set_option maxHeartbeats 4000000 in
theorem lc_42 {l : Launch} {ad : Nat → Nat} {G : JG} {X : List (Nat × Nat × (Int → Int))} {Z : JZ} {cells slots len : Nat} {scr : Int → Int} {i : Int} {w : AW} {D Di : Int → Int → Int} {n mi hi ni mj : Int} {sh E : Int → Int → Int} (hl9 : l.stackTraces = false) (hX : (1001, len, scr) ∈ X) (hlen : len ≤ 3072) (hi9 : 0 ≤ i ∧ i + 6 ≤ len) (hsc : ∀ j, inI (scr j)) (hcs2 : cells + 2 ≤ 601024 ∧ slots + 12 ≤ 7293034) (hW : LW w D n mi hi Di ni mj sh E) (hI : Inv D n mi hi Di ni mj sh E) (kont : ∀ (D Di : Int → Int → Int) (n mi hi ni mj : Int) (sh E : Int → Int → Int) (w : AW), LW w D n mi hi Di ni mj sh E → Inv D n mi hi Di ni mj sh E → J l m_Law_law ad G X false Z 68 (cells + 1) (slots + 6) 1708 [some (aR 1001), some (aR 0), some (aR 53), some (aR 67), some (aI i), none, none, none] [] w) : J l m_Law_law ad G X false Z 68 cells slots 1683 [some (aR 1001), some (aR 0), some (aR 53), some (aR 67), some (aI i), none, none, none] [] w := by
  have hB := hI.1
  obtain ⟨hC, hM, f0, hf⟩ := hW
  have hO := hC.1
  have hcs : cells + 1 ≤ 601024 ∧ slots + 6 ≤ 7293034 := by omega
  have hcs1 : (cells + 1) + 1 ≤ 601024 ∧ (slots + 6) + 6 ≤ 7293034 := by omega
  refine j_aload_n (pc' := 1684) (z := 0) dL_law_1683 rfl rfl ?_
  refine j_aload_n (pc' := 1685) (z := 1001) dL_law_1684 rfl rfl ?_
  refine j_iload (pc' := 1687) (z := i) dL_law_1685 rfl rfl ?_
  refine j_iconst (pc' := 1688) dL_law_1687 rfl ?_
  refine j_iadd (pc' := 1689) dL_law_1688 rfl ?_
  refine j_xld (pc' := 1690) (f := scr) (n := len) dL_law_1689 rfl hX (by omega) (by omega) ?_
  refine j_callVH (pc' := 1693) (q := 0) (as := [aI (scr (i + 1))]) (rest := []) dL_law_1690 rfl s_Law_201 (c_Top_toss hl9 hC hI.1 hI.2.1 hI.2.2.1 hI.2.2.2.1 (hsc _)) (by omega) hO rfl rfl rfl (rmL hcs rfl) (fun r1 w1 h1 => ?_)
  obtain ⟨rfl, rfl⟩ := h1
  obtain ⟨⟨pc9, ra9, re9, fm9, se9, th9, h53⟩, -⟩ := id hM
  refine j_wide (k9 := cells + 1) (n9 := slots + 6) (Nat.le_refl _) (Nat.le_refl _) ?_
  refine j_aload_n (pc' := 1694) (z := 53) dL_law_1693 rfl rfl ?_
  refine j_aload_n (pc' := 1695) (z := 1001) dL_law_1694 rfl rfl ?_
  refine j_iload (pc' := 1697) (z := i) dL_law_1695 rfl rfl ?_
  refine j_iconst (pc' := 1698) dL_law_1697 rfl ?_
  refine j_iadd (pc' := 1699) dL_law_1698 rfl ?_
  refine j_xld (pc' := 1700) (f := scr) (n := len) dL_law_1699 rfl hX (by omega) (by omega) ?_
  refine j_callV (pc' := 1703) (q := 53) (as := [aI (scr (i + 1))]) (rest := [aI _]) dL_law_1700 rfl s_Law_204 (c_Mod_toss hM hI.1 hI.2.1 hI.2.2.1 hI.2.2.2.1 hI.2.2.2.2.1 (hsc _)) (by omega) h53 rfl rfl rfl (rmL hcs1 rfl) (fun r2 w2 h2 => ?_)
  obtain ⟨rfl, hT2⟩ := h2
  refine j_icmpE (tgt := 1708) dL_law_1703 (by decide) ?_
  refine j_wide (k9 := cells + 1) (n9 := slots + 6) (Nat.le_refl _) (Nat.le_refl _) ?_
  exact kont _ _ _ _ _ _ _ _ _ _ ⟨hC.congr (fun j a => hT2.2 j (Or.inl a)), hT2.1, f0, by rw [hT2.2 67 (Or.inr (by omega))]; exact hf⟩ hI
set_option maxRecDepth 100000 in
set_option maxHeartbeats 4000000 in
theorem lc_39 {l : Launch} {ad : Nat → Nat} {G : JG} {X : List (Nat × Nat × (Int → Int))} {Z : JZ} {cells slots len : Nat} {scr : Int → Int} {i : Int} {w : AW} {D Di : Int → Int → Int} {n mi hi ni mj : Int} {sh E : Int → Int → Int} (hl9 : l.stackTraces = false) (hX : (1001, len, scr) ∈ X) (hlen : len ≤ 3072) (hi9 : 0 ≤ i ∧ i + 6 ≤ len) (hsc : ∀ j, inI (scr j)) (hcs2 : cells + 2 ≤ 601024 ∧ slots + 12 ≤ 7293034) (hW : LW w D n mi hi Di ni mj sh E) (hI : Inv D n mi hi Di ni mj sh E) (kont : ∀ (D Di : Int → Int → Int) (n mi hi ni mj : Int) (sh E : Int → Int → Int) (w : AW), LW w D n mi hi Di ni mj sh E → Inv D n mi hi Di ni mj sh E → J l m_Law_law ad G X false Z 68 (cells + 1) (slots + 6) 1708 [some (aR 1001), some (aR 0), some (aR 53), some (aR 67), some (aI i), none, none, none] [] w) : J l m_Law_law ad G X false Z 68 cells slots 1518 [some (aR 1001), some (aR 0), some (aR 53), some (aR 67), some (aI i), none, none, none] [] w := by
  have hB := hI.1
  obtain ⟨hC, hM, f0, hf⟩ := hW
  have hO := hC.1
  have hcs : cells + 1 ≤ 601024 ∧ slots + 6 ≤ 7293034 := by omega
  have hcs1 : (cells + 1) + 1 ≤ 601024 ∧ (slots + 6) + 6 ≤ 7293034 := by omega
  refine j_aload_n (pc' := 1519) (z := 0) dL_law_1518 rfl rfl ?_
  refine j_aload_n (pc' := 1520) (z := 1001) dL_law_1519 rfl rfl ?_
  refine j_iload (pc' := 1522) (z := i) dL_law_1520 rfl rfl ?_
  refine j_iconst (pc' := 1523) dL_law_1522 rfl ?_
  refine j_iadd (pc' := 1524) dL_law_1523 rfl ?_
  refine j_xld (pc' := 1525) (f := scr) (n := len) dL_law_1524 rfl hX (by omega) (by omega) ?_
  refine j_aload_n (pc' := 1526) (z := 1001) dL_law_1525 rfl rfl ?_
  refine j_iload (pc' := 1528) (z := i) dL_law_1526 rfl rfl ?_
  refine j_iconst (pc' := 1529) dL_law_1528 rfl ?_
  refine j_iadd (pc' := 1530) dL_law_1529 rfl ?_
  refine j_xld (pc' := 1531) (f := scr) (n := len) dL_law_1530 rfl hX (by omega) (by omega) ?_
  refine j_aload_n (pc' := 1532) (z := 67) dL_law_1531 rfl rfl ?_
  refine j_callSH (pc' := 1535) (as := [aR 0, aI (scr (i + 1)), aI (scr (i + 2)), aR 67]) (rest := []) dL_law_1532 rfl s_Law_183 (c_Law_element hl9 hC hI.1 hI.2.1 hI.2.2.1 hI.2.2.2.1 (hsc _) (hsc _) hf) rfl rfl (rmL hcs rfl) (fun r1 w1 h1 => ?_)
  obtain ⟨rfl, hw1⟩ := h1
  have k1 : ∀ j, j ≠ 67 → w1 j = w j := by
    intro j hj
    rw [hw1]
    split
    · exact up_n hj
    · rfl
  have hE : 0 ≤ elT sh (scr (i + 1)) (scr (i + 2)) ∧ elT sh (scr (i + 1)) (scr (i + 2)) ≤ 2 := by unfold elT; (repeat' split) <;> omega
  obtain ⟨f1, hf1, hv1⟩ : ∃ f1, w1 67 = eL 1 f1 ∧ (elT sh (scr (i + 1)) (scr (i + 2)) = 0 → f1 0 = elV sh E (scr (i + 1)) (scr (i + 2))) := by
    rw [hw1]
    split
    · exact ⟨_, up_s, fun _ => upi_s⟩
    · rename_i h
      exact ⟨f0, hf, fun h2 => absurd h2 h⟩
  clear hw1
  have hM1 := hM.congr (w' := w1) (fun j a b => k1 j (by omega))
  obtain ⟨⟨pc9, ra9, re9, fm9, se9, th9, h53⟩, -⟩ := id hM1
  refine j_wide (k9 := cells + 1) (n9 := slots + 6) (Nat.le_refl _) (Nat.le_refl _) ?_
  refine j_istore (pc' := 1537) (L' := [some (aR 1001), some (aR 0), some (aR 53), some (aR 67), some (aI i), some (aI (elT sh (scr (i + 1)) (scr (i + 2)))), none, none]) dL_law_1535 rfl (by decide) rfl ?_
  refine j_aload_n (pc' := 1538) (z := 53) dL_law_1537 rfl rfl ?_
  refine j_aload_n (pc' := 1539) (z := 1001) dL_law_1538 rfl rfl ?_
  refine j_iload (pc' := 1541) (z := i) dL_law_1539 rfl rfl ?_
  refine j_iconst (pc' := 1542) dL_law_1541 rfl ?_
  refine j_iadd (pc' := 1543) dL_law_1542 rfl ?_
  refine j_xld (pc' := 1544) (f := scr) (n := len) dL_law_1543 rfl hX (by omega) (by omega) ?_
  refine j_aload_n (pc' := 1545) (z := 1001) dL_law_1544 rfl rfl ?_
  refine j_iload (pc' := 1547) (z := i) dL_law_1545 rfl rfl ?_
  refine j_iconst (pc' := 1548) dL_law_1547 rfl ?_
  refine j_iadd (pc' := 1549) dL_law_1548 rfl ?_
  refine j_xld (pc' := 1550) (f := scr) (n := len) dL_law_1549 rfl hX (by omega) (by omega) ?_
  refine j_callV (pc' := 1553) (q := 53) (as := [aI (scr (i + 1)), aI (scr (i + 2))]) (rest := []) dL_law_1550 rfl s_Law_188 (c_Mod_element hM1 hI.1 hI.2.1 hI.2.2.1 hI.2.2.2.1 hI.2.2.2.2.1 (hsc _) (hsc _)) (by omega) h53 rfl rfl rfl (rmL hcs1 rfl) (fun r2 w2 h2 => ?_)
  obtain ⟨rfl, hT2, pc8, ra8, re8, fm8, se8, h58⟩ := h2
  refine j_lstore (pc' := 1555) (L' := [some (aR 1001), some (aR 0), some (aR 53), some (aR 67), some (aI i), some (aI (elT sh (scr (i + 1)) (scr (i + 2)))), some (aL (elV sh E (scr (i + 1)) (scr (i + 2)))), none]) dL_law_1553 rfl (by decide) rfl ?_
  refine j_aload_n (pc' := 1556) (z := 53) dL_law_1555 rfl rfl ?_
  refine j_callV (pc' := 1559) (q := 53) (as := []) (rest := []) dL_law_1556 rfl s_Law_189 (c_Mod_thrown h58) (by omega) h58 rfl rfl rfl (rmL hcs1 rfl) (jdet (st' := [aI (elT sh (scr (i + 1)) (scr (i + 2)))]) rfl ?_)
  refine j_wide (k9 := cells + 1) (n9 := slots + 6) (Nat.le_refl _) (Nat.le_refl _) ?_
  refine j_iload (pc' := 1561) (z := elT sh (scr (i + 1)) (scr (i + 2))) dL_law_1559 rfl rfl ?_
  refine j_icmpE (tgt := 1566) dL_law_1561 (by decide) ?_
  refine j_iload (pc' := 1568) (z := elT sh (scr (i + 1)) (scr (i + 2))) dL_law_1566 rfl rfl ?_
  have hend : J l m_Law_law ad G X false Z 68 (cells + 1) (slots + 6) 1582 [some (aR 1001), some (aR 0), some (aR 53), some (aR 67), some (aI i), some (aI (elT sh (scr (i + 1)) (scr (i + 2)))), some (aL (elV sh E (scr (i + 1)) (scr (i + 2)))), none] [] w2 := by
    refine j_goto (pc' := 1708) dL_law_1582 (by decide) ?_
    refine j_forget (L' := [some (aR 1001), some (aR 0), some (aR 53), some (aR 67), some (aI i), none, some (aL (elV sh E (scr (i + 1)) (scr (i + 2)))), none]) 5 rfl ?_
    refine j_forget (L' := [some (aR 1001), some (aR 0), some (aR 53), some (aR 67), some (aI i), none, none, none]) 6 rfl ?_
    exact kont _ _ _ _ _ _ _ _ _ _ ⟨hC.congr (fun j a => by rw [hT2.2 j (Or.inl a)]; exact k1 j (by omega)), hT2.1, f1, by rw [hT2.2 67 (Or.inr (by omega))]; exact hf1⟩ hI
  refine j_if_ne (tgt := 1582) (pc' := 1571) dL_law_1568 (by decide) rfl (by omega) (fun h => hend) (fun h => ?_)
  refine j_aload_n (pc' := 1572) (z := 67) dL_law_1571 rfl rfl ?_
  refine j_iconst (pc' := 1573) dL_law_1572 rfl ?_
  refine j_lald (pc' := 1574) (f := f1) (n := 1) dL_law_1573 rfl (by omega) (by rw [hT2.2 67 (Or.inr (by omega))]; exact hf1) (by omega) (by decide) ?_
  rw [hv1 h]
  refine j_lload (pc' := 1576) (z := elV sh E (scr (i + 1)) (scr (i + 2))) dL_law_1574 rfl rfl ?_
  refine j_lcmpE (pc' := 1577) dL_law_1576 rfl ?_
  exact j_if_eq (tgt := 1582) (pc' := 1580) dL_law_1577 (by decide) rfl (by omega) (fun _ => hend) (fun h => absurd rfl h)
set_option maxRecDepth 100000 in
set_option maxHeartbeats 4000000 in
theorem law_loop {l : Launch} {ad : Nat → Nat} {G : JG} {X : List (Nat × Nat × (Int → Int))} {Z : JZ} {len : Nat} {scr : Int → Int} (hl9 : l.stackTraces = false) (hX : (1001, len, scr) ∈ X) (hlen : len ≤ 3072) (hsc : ∀ j, inI (scr j))
    (hend : ∀ (cells slots : Nat) (L : List (Option AV)) (w : AW), cells ≤ 601024 → slots ≤ 7293034 → J l m_Law_law ad G X false Z 68 cells slots 1715 L [aI 1] w) : ∀ (m i : Nat), len - i ≤ m → i ≤ len → ∀ (D Di : Int → Int → Int) (n mi hi ni mj : Int) (sh E : Int → Int → Int) (w : AW), LW w D n mi hi Di ni mj sh E → Inv D n mi hi Di ni mj sh E →
      J l m_Law_law ad G X false Z 68 (70 + i) (3000 + 6 * i) 23 [some (aR 1001), some (aR 0), some (aR 53), some (aR 67), some (aI (i : Nat)), none, none, none] [] w := by
  intro m
  induction m with
  | zero =>
    intro i hm hi D Di n mi hi8 ni mj sh E w hW hI
    refine j_iload (pc' := 25) (z := i) dL_law_23 rfl rfl ?_
    refine j_aload_n (pc' := 26) (z := 1001) dL_law_25 rfl rfl ?_
    refine j_xlen (pc' := 27) (f := scr) (n := len) dL_law_26 rfl hX ?_
    refine j_bipush (pc' := 29) (n := 6) dL_law_27 rfl (by decide) ?_
    refine j_isub (pc' := 30) dL_law_29 rfl ?_
    refine j_icmp_gt (tgt := 1714) (pc' := 33) dL_law_30 (by decide) rfl (by omega) (by omega) (fun h => ?_) (fun h => by omega)
    refine j_iconst (pc' := 1715) dL_law_1714 rfl ?_
    exact hend _ _ _ _ (by omega) (by omega)
  | succ m ih =>
    intro i hm hi D Di n mi hi8 ni mj sh E w hW hI
    refine j_iload (pc' := 25) (z := i) dL_law_23 rfl rfl ?_
    refine j_aload_n (pc' := 26) (z := 1001) dL_law_25 rfl rfl ?_
    refine j_xlen (pc' := 27) (f := scr) (n := len) dL_law_26 rfl hX ?_
    refine j_bipush (pc' := 29) (n := 6) dL_law_27 rfl (by decide) ?_
    refine j_isub (pc' := 30) dL_law_29 rfl ?_
    refine j_icmp_gt (tgt := 1714) (pc' := 33) dL_law_30 (by decide) rfl (by omega) (by omega) (fun h => ?_) (fun h => ?_)
    · refine j_iconst (pc' := 1715) dL_law_1714 rfl ?_
      exact hend _ _ _ _ (by omega) (by omega)
    refine j_aload_n (pc' := 34) (z := 1001) dL_law_33 rfl rfl ?_
    refine j_iload (pc' := 36) (z := i) dL_law_34 rfl rfl ?_
    refine j_xld (pc' := 37) (f := scr) (n := len) dL_law_36 rfl hX (by omega) (by omega) ?_
    refine j_bipush (pc' := 39) (n := 63) dL_law_37 rfl (by decide) ?_
    refine j_imask 6 (pc' := 40) dL_law_39 rfl (by omega) (by decide) ?_
    have hx0 : 0 ≤ scr (i : Nat) % 2 ^ 6 ∧ scr (i : Nat) % 2 ^ 6 < 64 := by omega
    generalize scr (i : Nat) % 2 ^ 6 = x at hx0 ⊢
    have kont : ∀ (D Di : Int → Int → Int) (n mi hi ni mj : Int) (sh E : Int → Int → Int) (w : AW), LW w D n mi hi Di ni mj sh E → Inv D n mi hi Di ni mj sh E → J l m_Law_law ad G X false Z 68 (70 + i + 1) (3000 + 6 * i + 6) 1708 [some (aR 1001), some (aR 0), some (aR 53), some (aR 67), some (aI (i : Nat)), none, none, none] [] w := by
      intro D Di n mi hi7 ni mj sh E w hW hI
      refine j_wide (k9 := 70 + (i + 6)) (n9 := 3000 + 6 * (i + 6)) (by omega) (by omega) ?_
      refine j_iinc (pc' := 1711) (L' := [some (aR 1001), some (aR 0), some (aR 53), some (aR 67), some (aI ((i + 6 : Nat) : Int)), none, none, none]) (z' := ((i + 6 : Nat) : Int)) dL_law_1708 rfl (by decide) rfl (by omega) rfl ?_
      refine j_goto (pc' := 23) dL_law_1711 (by decide) ?_
      exact ih (i + 6) (by omega) (by omega) D Di n mi hi7 ni mj sh E w hW hI
    rcases (show x = 0 ∨ x = 1 ∨ x = 2 ∨ x = 3 ∨ x = 4 ∨ x = 5 ∨ x = 6 ∨ x = 7 ∨ x = 8 ∨ x = 9 ∨ x = 10 ∨ x = 11 ∨ x = 12 ∨ x = 13 ∨ x = 14 ∨ x = 15 ∨ x = 16 ∨ x = 17 ∨ x = 18 ∨ x = 19 ∨ x = 20 ∨ x = 21 ∨ x = 22 ∨ x = 23 ∨ x = 24 ∨ x = 25 ∨ x = 26 ∨ x = 27 ∨ x = 28 ∨ x = 29 ∨ x = 30 ∨ x = 31 ∨ x = 32 ∨ x = 33 ∨ x = 34 ∨ x = 35 ∨ x = 36 ∨ x = 37 ∨ x = 38 ∨ x = 39 ∨ x = 40 ∨ x = 41 ∨ x = 42 ∨ 42 < x by omega) with h9 | h9 | h9 | h9 | h9 | h9 | h9 | h9 | h9 | h9 | h9 | h9 | h9 | h9 | h9 | h9 | h9 | h9 | h9 | h9 | h9 | h9 | h9 | h9 | h9 | h9 | h9 | h9 | h9 | h9 | h9 | h9 | h9 | h9 | h9 | h9 | h9 | h9 | h9 | h9 | h9 | h9 | h9 | h9
    · subst h9
      refine j_tsw (tgt := 228) (off := 188) dL_law_40 (by omega) (by omega) rfl (by decide) ?_
      exact lc_0 hl9 hX hlen (by omega) hsc (by omega) hW hI kont
    · subst h9
      refine j_tsw (tgt := 253) (off := 213) dL_law_40 (by omega) (by omega) rfl (by decide) ?_
      exact lc_1 hl9 hX hlen (by omega) hsc (by omega) hW hI kont
    · subst h9
      refine j_tsw (tgt := 290) (off := 250) dL_law_40 (by omega) (by omega) rfl (by decide) ?_
      exact lc_2 hl9 hX hlen (by omega) hsc (by omega) hW hI kont
    · subst h9
      refine j_tsw (tgt := 339) (off := 299) dL_law_40 (by omega) (by omega) rfl (by decide) ?_
      exact lc_3 hl9 hX hlen (by omega) hsc (by omega) hW hI kont
    · subst h9
      refine j_tsw (tgt := 364) (off := 324) dL_law_40 (by omega) (by omega) rfl (by decide) ?_
      exact lc_4 hl9 hX hlen (by omega) hsc (by omega) hW hI kont
    · subst h9
      refine j_tsw (tgt := 389) (off := 349) dL_law_40 (by omega) (by omega) rfl (by decide) ?_
      exact lc_5 hl9 hX hlen (by omega) hsc (by omega) hW hI kont
    · subst h9
      refine j_tsw (tgt := 414) (off := 374) dL_law_40 (by omega) (by omega) rfl (by decide) ?_
      exact lc_6 hl9 hX hlen (by omega) hsc (by omega) hW hI kont
    · subst h9
      refine j_tsw (tgt := 439) (off := 399) dL_law_40 (by omega) (by omega) rfl (by decide) ?_
      exact lc_7 hl9 hX hlen (by omega) hsc (by omega) hW hI kont
    · subst h9
      refine j_tsw (tgt := 476) (off := 436) dL_law_40 (by omega) (by omega) rfl (by decide) ?_
      exact lc_8 hl9 hX hlen (by omega) hsc (by omega) hW hI kont
    · subst h9
      refine j_tsw (tgt := 501) (off := 461) dL_law_40 (by omega) (by omega) rfl (by decide) ?_
      exact lc_9 hl9 hX hlen (by omega) hsc (by omega) hW hI kont
    · subst h9
      refine j_tsw (tgt := 538) (off := 498) dL_law_40 (by omega) (by omega) rfl (by decide) ?_
      exact lc_10 hl9 hX hlen (by omega) hsc (by omega) hW hI kont
    · subst h9
      refine j_tsw (tgt := 563) (off := 523) dL_law_40 (by omega) (by omega) rfl (by decide) ?_
      exact lc_11 hl9 hX hlen (by omega) hsc (by omega) hW hI kont
    · subst h9
      refine j_tsw (tgt := 600) (off := 560) dL_law_40 (by omega) (by omega) rfl (by decide) ?_
      exact lc_12 hl9 hX hlen (by omega) hsc (by omega) hW hI kont
    · subst h9
      refine j_tsw (tgt := 637) (off := 597) dL_law_40 (by omega) (by omega) rfl (by decide) ?_
      exact lc_13 hl9 hX hlen (by omega) hsc (by omega) hW hI kont
    · subst h9
      refine j_tsw (tgt := 662) (off := 622) dL_law_40 (by omega) (by omega) rfl (by decide) ?_
      exact lc_14 hl9 hX hlen (by omega) hsc (by omega) hW hI kont
    · subst h9
      refine j_tsw (tgt := 687) (off := 647) dL_law_40 (by omega) (by omega) rfl (by decide) ?_
      exact lc_15 hl9 hX hlen (by omega) hsc (by omega) hW hI kont
    · subst h9
      refine j_tsw (tgt := 712) (off := 672) dL_law_40 (by omega) (by omega) rfl (by decide) ?_
      exact lc_16 hl9 hX hlen (by omega) hsc (by omega) hW hI kont
    · subst h9
      refine j_tsw (tgt := 725) (off := 685) dL_law_40 (by omega) (by omega) rfl (by decide) ?_
      exact lc_17 hl9 hX hlen (by omega) hsc (by omega) hW hI kont
    · subst h9
      refine j_tsw (tgt := 762) (off := 722) dL_law_40 (by omega) (by omega) rfl (by decide) ?_
      exact lc_18 hl9 hX hlen (by omega) hsc (by omega) hW hI kont
    · subst h9
      refine j_tsw (tgt := 799) (off := 759) dL_law_40 (by omega) (by omega) rfl (by decide) ?_
      exact lc_19 hl9 hX hlen (by omega) hsc (by omega) hW hI kont
    · subst h9
      refine j_tsw (tgt := 824) (off := 784) dL_law_40 (by omega) (by omega) rfl (by decide) ?_
      exact lc_20 hl9 hX hlen (by omega) hsc (by omega) hW hI kont
    · subst h9
      refine j_tsw (tgt := 862) (off := 822) dL_law_40 (by omega) (by omega) rfl (by decide) ?_
      exact lc_21 hl9 hX hlen (by omega) hsc (by omega) hW hI kont
    · subst h9
      refine j_tsw (tgt := 900) (off := 860) dL_law_40 (by omega) (by omega) rfl (by decide) ?_
      exact lc_22 hl9 hX hlen (by omega) hsc (by omega) hW hI kont
    · subst h9
      refine j_tsw (tgt := 925) (off := 885) dL_law_40 (by omega) (by omega) rfl (by decide) ?_
      exact lc_23 hl9 hX hlen (by omega) hsc (by omega) hW hI kont
    · subst h9
      refine j_tsw (tgt := 962) (off := 922) dL_law_40 (by omega) (by omega) rfl (by decide) ?_
      exact lc_24 hl9 hX hlen (by omega) hsc (by omega) hW hI kont
    · subst h9
      refine j_tsw (tgt := 1024) (off := 984) dL_law_40 (by omega) (by omega) rfl (by decide) ?_
      exact lc_25 hl9 hX hlen (by omega) hsc (by omega) hW hI kont
    · subst h9
      refine j_tsw (tgt := 1061) (off := 1021) dL_law_40 (by omega) (by omega) rfl (by decide) ?_
      exact lc_26 hl9 hX hlen (by omega) hsc (by omega) hW hI kont
    · subst h9
      refine j_tsw (tgt := 1086) (off := 1046) dL_law_40 (by omega) (by omega) rfl (by decide) ?_
      exact lc_27 hl9 hX hlen (by omega) hsc (by omega) hW hI kont
    · subst h9
      refine j_tsw (tgt := 1147) (off := 1107) dL_law_40 (by omega) (by omega) rfl (by decide) ?_
      exact lc_28 hl9 hX hlen (by omega) hsc (by omega) hW hI kont
    · subst h9
      refine j_tsw (tgt := 1172) (off := 1132) dL_law_40 (by omega) (by omega) rfl (by decide) ?_
      exact lc_29 hl9 hX hlen (by omega) hsc (by omega) hW hI kont
    · subst h9
      refine j_tsw (tgt := 1209) (off := 1169) dL_law_40 (by omega) (by omega) rfl (by decide) ?_
      exact lc_30 hl9 hX hlen (by omega) hsc (by omega) hW hI kont
    · subst h9
      refine j_tsw (tgt := 1234) (off := 1194) dL_law_40 (by omega) (by omega) rfl (by decide) ?_
      exact lc_31 hl9 hX hlen (by omega) hsc (by omega) hW hI kont
    · subst h9
      refine j_tsw (tgt := 1259) (off := 1219) dL_law_40 (by omega) (by omega) rfl (by decide) ?_
      exact lc_32 hl9 hX hlen (by omega) hsc (by omega) hW hI kont
    · subst h9
      refine j_tsw (tgt := 1308) (off := 1268) dL_law_40 (by omega) (by omega) rfl (by decide) ?_
      exact lc_33 hl9 hX hlen (by omega) hsc (by omega) hW hI kont
    · subst h9
      refine j_tsw (tgt := 1321) (off := 1281) dL_law_40 (by omega) (by omega) rfl (by decide) ?_
      exact lc_34 hl9 hX hlen (by omega) hsc (by omega) hW hI kont
    · subst h9
      refine j_tsw (tgt := 1334) (off := 1294) dL_law_40 (by omega) (by omega) rfl (by decide) ?_
      exact lc_35 hl9 hX hlen (by omega) hsc (by omega) hW hI kont
    · subst h9
      refine j_tsw (tgt := 1359) (off := 1319) dL_law_40 (by omega) (by omega) rfl (by decide) ?_
      exact lc_36 hl9 hX hlen (by omega) hsc (by omega) hW hI kont
    · subst h9
      refine j_tsw (tgt := 1420) (off := 1380) dL_law_40 (by omega) (by omega) rfl (by decide) ?_
      exact lc_37 hl9 hX hlen (by omega) hsc (by omega) hW hI kont
    · subst h9
      refine j_tsw (tgt := 1469) (off := 1429) dL_law_40 (by omega) (by omega) rfl (by decide) ?_
      exact lc_38 hl9 hX hlen (by omega) hsc (by omega) hW hI kont
    · subst h9
      refine j_tsw (tgt := 1518) (off := 1478) dL_law_40 (by omega) (by omega) rfl (by decide) ?_
      exact lc_39 hl9 hX hlen (by omega) hsc (by omega) hW hI kont
    · subst h9
      refine j_tsw (tgt := 1585) (off := 1545) dL_law_40 (by omega) (by omega) rfl (by decide) ?_
      exact lc_40 hl9 hX hlen (by omega) hsc (by omega) hW hI kont
    · subst h9
      refine j_tsw (tgt := 1658) (off := 1618) dL_law_40 (by omega) (by omega) rfl (by decide) ?_
      exact lc_41 hl9 hX hlen (by omega) hsc (by omega) hW hI kont
    · subst h9
      refine j_tsw (tgt := 1683) (off := 1643) dL_law_40 (by omega) (by omega) rfl (by decide) ?_
      exact lc_42 hl9 hX hlen (by omega) hsc (by omega) hW hI kont
    · refine j_tswd (tgt := 1708) dL_law_40 (by omega) (Or.inr h9) (by decide) ?_
      exact j_wide (k9 := 70 + i + 1) (n9 := 3000 + 6 * i + 6) (by omega) (by omega) (kont _ _ _ _ _ _ _ _ _ _ hW hI)
theorem inv0 : Inv D0 0 0 0 D0 0 0 sh0 sh0 := by
  have h1 : CarOK D0 0 0 := ⟨by omega, fun p h1 h2 => by simp [D0], by simp [D0], by simp [D0], by simp [D0], by simp [D0]⟩
  have h2 : WdOK D0 := fun p h1 h2 h3 => by simp [D0]
  exact ⟨h1, h1, Or.inl rfl, fun d hd => ⟨by simp [sh0], by simp [sh0], by simp [sh0], by simp [sh0], by simp [sh0], fun i h1 h2 => (by show inI 0; omega)⟩, h2, h2, fun d hd h3 => by simp [sh0] at h3⟩
theorem rmL2 {cells slots : Nat} {Mc : MI} {rest : List AV} (h : (decide (Mc.2.2.2.2.frames + 1 ≤ 11) && decide (8 + (Mc.2.2.1 + 11) + Mc.2.2.2.2.locals ≤ 420) && decide ((rest.map jcat).sum ≤ 8) && decide (cells + Mc.2.2.2.2.cells ≤ 601024) && decide (slots + Mc.2.2.2.2.slots ≤ 7293034)) = true) : rmB m_Law_law Mc cells slots rest = true := h
set_option maxRecDepth 100000 in
set_option maxHeartbeats 4000000 in
theorem law_start {l : Launch} {ad : Nat → Nat} {G : JG} {X : List (Nat × Nat × (Int → Int))} {Z : JZ} {len : Nat} {scr : Int → Int} {w : AW} (hl9 : l.stackTraces = false) (hX : (1001, len, scr) ∈ X) (hlen : len ≤ 3072) (hsc : ∀ j, inI (scr j))
    (hend : ∀ (cells slots : Nat) (L : List (Option AV)) (w : AW), cells ≤ 601024 → slots ≤ 7293034 → J l m_Law_law ad G X false Z 68 cells slots 1715 L [aI 1] w) : J l m_Law_law ad G X true Z 0 0 0 0 [some (aR 1001), none, none, none, none, none, none, none] [] w := by
  refine j_new (pc' := 3) (Cn := RX11) (T := TX11) (Nf := 8) (ci := 10) [aN, aN, aN, aI 0, aN, aN, aN, aN] dL_law_0 rfl rfl (gt_1 63 (by decide +kernel) (by decide +kernel)) cin_10 cit_10 tyX11 tyX11_ok (by intro ad j hj; rcases (show j = 0 ∨ j = 1 ∨ j = 2 ∨ j = 3 ∨ j = 4 ∨ j = 5 ∨ j = 6 ∨ j = 7 by omega) with rfl | rfl | rfl | rfl | rfl | rfl | rfl | rfl <;> rfl) (by omega) ⟨by decide, by decide⟩ ?_
  refine j_dup (pc' := 4) dL_law_3 rfl rfl ?_
  refine j_callI (pc' := 7) (q := 0) (as := []) (rest := [aR 0]) dL_law_4 rfl s_Law_17 (c_Top_init up_s) rfl rfl rfl (fun r1 w1 h1 => ?_)
  obtain ⟨rfl, hC1⟩ := h1
  refine j_astore_n (pc' := 8) (L' := [some (aR 1001), some (aR 0), none, none, none, none, none, none]) dL_law_7 rfl (by decide) rfl ?_
  refine j_new (pc' := 11) (Cn := RX12) (T := TX12) (Nf := 20) (ci := 11) [aN, aN, aN, aN, aI 0, aI 0, aI 0, aI 0, aN, aN, aN, aI 0, aI 0, aN, aN, aN, aN, aN, aN, aI 0] dL_law_8 rfl rfl (gt_1 973 (by decide +kernel) (by decide +kernel)) cin_11 cit_11 tyX12 tyX12_ok (by intro ad j hj; rcases (show j = 0 ∨ j = 1 ∨ j = 2 ∨ j = 3 ∨ j = 4 ∨ j = 5 ∨ j = 6 ∨ j = 7 ∨ j = 8 ∨ j = 9 ∨ j = 10 ∨ j = 11 ∨ j = 12 ∨ j = 13 ∨ j = 14 ∨ j = 15 ∨ j = 16 ∨ j = 17 ∨ j = 18 ∨ j = 19 by omega) with rfl | rfl | rfl | rfl | rfl | rfl | rfl | rfl | rfl | rfl | rfl | rfl | rfl | rfl | rfl | rfl | rfl | rfl | rfl | rfl <;> rfl) (by omega) ⟨by decide, by decide⟩ ?_
  refine j_dup (pc' := 12) dL_law_11 rfl rfl ?_
  refine j_callI (pc' := 15) (q := 53) (as := []) (rest := [aR 53]) dL_law_12 rfl s_Law_20 (c_Mod_init up_s) rfl rfl rfl (fun r2 w2 h2 => ?_)
  obtain ⟨rfl, hM2, hf2⟩ := h2
  refine j_astore_n (pc' := 16) (L' := [some (aR 1001), some (aR 0), some (aR 53), none, none, none, none, none]) dL_law_15 rfl (by decide) rfl ?_
  refine j_iconst (pc' := 17) dL_law_16 rfl ?_
  refine j_newaL (pc' := 19) 1 dL_law_17 rfl (by omega) rfl (by omega) ⟨by decide, by decide⟩ ?_
  refine j_al ?_
  refine j_astore_n (pc' := 20) (L' := [some (aR 1001), some (aR 0), some (aR 53), some (aR 67), none, none, none, none]) dL_law_19 rfl (by decide) rfl ?_
  refine j_iconst (pc' := 21) dL_law_20 rfl ?_
  refine j_istore (pc' := 23) (L' := [some (aR 1001), some (aR 0), some (aR 53), some (aR 67), some (aI ((0 : Nat) : Int)), none, none, none]) dL_law_21 rfl (by decide) rfl ?_
  refine j_wide (k9 := 70 + 0) (n9 := 3000 + 6 * 0) (by decide) (by decide) ?_
  exact law_loop hl9 hX hlen hsc hend len 0 (by omega) (by omega) _ _ _ _ _ _ _ _ _ _ ⟨hC1.congr (fun j hj => by rw [up_n (by omega), hf2 j hj, up_n (by omega)]), hM2.congr (fun j h1 h2 => up_n (by omega)), _, up_s⟩ inv0
