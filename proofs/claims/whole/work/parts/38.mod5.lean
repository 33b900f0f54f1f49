theorem andI_comm {a b : Int} : andI a b = andI b a := by unfold andI; rw [Nat.and_comm]
theorem or01 {z : Int} (h : 0 ≤ z ∧ z ≤ 1) : orI z 0 = z ∧ orI z 1 = 1 := by
  rcases (show z = 0 ∨ z = 1 by omega) with rfl | rfl <;> decide
theorem and01 {z : Int} (h : 0 ≤ z ∧ z ≤ 1) : andI z 0 = 0 ∧ andI z 1 = z := by
  rcases (show z = 0 ∨ z = 1 by omega) with rfl | rfl <;> decide
theorem sumI_add {f g : Int → Int} {n : Int} (h : 0 ≤ n) : sumI (fun k => f k + g k) n = sumI f n + sumI g n := by
  have key : ∀ m : Nat, sumI (fun k => f k + g k) m = sumI f m + sumI g m := by
    intro m
    induction m with
    | zero => rfl
    | succ m ih => rw [show ((m + 1 : Nat) : Int) = (m : Int) + 1 by omega, sumI_s (by omega), sumI_s (by omega), sumI_s (by omega), ih]; omega
  have := key n.toNat
  rwa [Int.toNat_of_nonneg h] at this
def tnA (D : Int → Int → Int) (set pace k : Int) : Int := sumI (fun p => if bt set p = 1 ∧ 0 < lds D p pace then D 3 p else 0) k
def tnB (D : Int → Int → Int) (set pace k : Int) : Int := sumI (fun p => if bt set p = 1 ∧ ¬ 0 < lds D p pace then D 3 p else 0) k
theorem tn_min {D : Int → Int → Int} {n set pace : Int} (hn : 0 ≤ n) (hs : 0 ≤ set) : tnW D n set pace = min (tnA D set pace n) (tnB D set pace n) := by
  have hb := bset_bd' (P := ratP D pace) hn
  have e1 : wts D n (andI set (ratS D n pace)) = tnA D set pace n := by
    apply sumI_congr
    intro p h1 h2
    have h3 := bt_andI (a := set) (b := ratS D n pace) (p := p) hs hb.1 h1
    have h4 : bt (ratS D n pace) p = 1 ↔ ratP D pace p = true := bset_bt' ⟨h1, h2⟩
    unfold ratP at h4
    rw [decide_eq_true_iff] at h4
    by_cases c : bt set p = 1 ∧ 0 < lds D p pace
    · rw [if_pos (h3.mpr ⟨c.1, h4.mpr c.2⟩), if_pos c]
    · rw [if_neg (fun q => c ⟨(h3.mp q).1, h4.mp (h3.mp q).2⟩), if_neg c]
  have e2 : wts D n set = tnA D set pace n + tnB D set pace n := by
    unfold tnA tnB wts
    rw [← sumI_add hn]
    apply sumI_congr
    intro p h1 h2
    by_cases c : bt set p = 1
    · rw [if_pos c]
      by_cases c2 : 0 < lds D p pace
      · rw [if_pos ⟨c, c2⟩, if_neg (fun q => q.2 c2)]; omega
      · rw [if_neg (fun q => c2 q.2), if_pos ⟨c, c2⟩]; omega
    · rw [if_neg c, if_neg (fun q => c q.1), if_neg (fun q => c q.1)]; omega
  unfold tnW
  rw [e1, e2, show tnA D set pace n + tnB D set pace n - tnA D set pace n = tnB D set pace n by omega]
theorem tnA_bd {D : Int → Int → Int} {n mi set pace k : Int} (hB : CarOK D n mi) (hk : 0 ≤ k ∧ k ≤ 7) : 0 ≤ tnA D set pace k ∧ tnA D set pace k ≤ 63 := by
  obtain ⟨hn, hD, -⟩ := hB
  have h := sumI_bd (f := fun p => if bt set p = 1 ∧ 0 < lds D p pace then D 3 p else 0) (n := k) (lo := 0) (hi := 9) hk.1 (fun p h1 h2 => by
    have := (hD p h1 (by omega)).2.2.2.1
    split <;> omega)
  unfold tnA; omega
theorem tnB_bd {D : Int → Int → Int} {n mi set pace k : Int} (hB : CarOK D n mi) (hk : 0 ≤ k ∧ k ≤ 7) : 0 ≤ tnB D set pace k ∧ tnB D set pace k ≤ 63 := by
  obtain ⟨hn, hD, -⟩ := hB
  have h := sumI_bd (f := fun p => if bt set p = 1 ∧ ¬ 0 < lds D p pace then D 3 p else 0) (n := k) (lo := 0) (hi := 9) hk.1 (fun p h1 h2 => by
    have := (hD p h1 (by omega)).2.2.2.1
    split <;> omega)
  unfold tnB; omega
theorem lds_bd {D : Int → Int → Int} {n mi p pace : Int} (hB : CarOK D n mi) (hp : 0 ≤ p ∧ p < 7) : 0 ≤ lds D p pace ∧ lds D p pace ≤ 21 := by
  obtain ⟨hn, hD, hs0, hs1, hs2, hs3⟩ := hB
  exact loud_bd (hD p hp.1 hp.2).2.1 hs2.1
theorem susS_bd {D : Int → Int → Int} {n mi sz : Int} {F : Int → Int} (hB : CarOK D n mi) : 0 ≤ susS D n F sz ∧ susS D n F sz ≤ 127 := bset_127 ⟨hB.1.1, hB.1.2.1⟩
theorem low_0 {a b p : Int} (ha : a = 0) (hb : 0 ≤ b) (hp : 0 ≤ p ∧ p ≤ 1) : lowT a b p = p := by
  subst ha
  unfold lowT
  by_cases h : b = 0
  · rw [if_pos (Or.inl h)]; split <;> omega
  · have e : gcdI 0 b = b := by unfold gcdI; simp; omega
    rw [e, if_neg (by omega)]
    split
    · rw [Int.zero_ediv]; omega
    · rw [Int.ediv_self h]; omega
set_option maxRecDepth 100000 in
set_option maxHeartbeats 4000000 in
theorem c_Mod_bits {l : Launch} {w : AW} {x : Int} (hx : 0 ≤ x ∧ x ≤ 2147483647) : Call l m_Mod_bits false 68 68 [aI x] w (rt (some (aI (pop x))) w) := by
  refine Call.of (L := [some (aI x), none, none]) rfl (Nat.le_of_ble_eq_true rfl) rfl (fun G ad => ?_)
  refine j_iconst (pc' := 1) dX12_bits_0 rfl ?_
  refine j_istore_n (pc' := 2) (L' := [some (aI x), some (aI 0), none]) dX12_bits_1 rfl (by decide) rfl ?_
  refine j_iconst (pc' := 3) dX12_bits_2 rfl ?_
  refine j_istore_n (pc' := 4) (L' := [some (aI x), some (aI 0), some (aI 0)]) dX12_bits_3 rfl (by decide) rfl ?_
  have lp4 : ∀ (k9 : Nat) (v : Int) (i : Int), (0 ≤ i ∧ i ≤ 7) → (v = sumI (fun k => bt x k) i) → ((7 - i).toNat) = k9 → J l m_Mod_bits ad G [] false (jZ ad G false 68 m_Mod_bits.2.2.2.2.cells m_Mod_bits.2.2.2.2.slots (rt (some (aI (pop x))) w)) 68 0 0 4 [some (aI x), some (aI v), some (aI i)] [] w := by
    intro k9
    induction k9 using Nat.strongRecOn with
    | _ k9 ih4 =>
      intro v i hi hv hk4
      refine j_iload_n (pc' := 5) (z := i) dX12_bits_4 rfl rfl ?_
      refine j_bipush (pc' := 7) dX12_bits_5 rfl (by decide) ?_
      refine j_icmp_ge (tgt := 24) (pc' := 10) dX12_bits_7 (by decide) rfl (by omega) (by omega) (fun h7 => ?_) (fun h7 => ?_)
      · refine j_iload_n (pc' := 25) (z := v) dX12_bits_24 rfl rfl ?_
        exact j_iret dX12_bits_25 rfl (rt_eq (by rw [hv, show i = 7 by omega]; rfl))
      · refine j_iload_n (pc' := 11) (z := v) dX12_bits_10 rfl rfl ?_
        refine j_iload_n (pc' := 12) (z := x) dX12_bits_11 rfl rfl ?_
        refine j_iload_n (pc' := 13) (z := i) dX12_bits_12 rfl rfl ?_
        refine j_ishr (pc' := 14) dX12_bits_13 rfl (by omega) (by omega) ?_
        refine j_iconst (pc' := 15) dX12_bits_14 rfl ?_
        refine j_imask (pc' := 16) 1 dX12_bits_15 rfl (by decide) rfl ?_
        have hb1 := bt_01 (x := x) (p := i)
        have hbt : bt x i = x / 2 ^ (Int.toNat i) % 2 ^ 1 := rfl
        refine j_iadd (pc' := 17) dX12_bits_16 rfl ?_
        refine j_istore_n (pc' := 18) (L' := [some (aI x), some (aI (v + ((x / 2 ^ (Int.toNat i)) % 2 ^ 1))), some (aI i)]) dX12_bits_17 rfl (by decide) rfl ?_
        refine j_iinc (pc' := 21) (z := i) (L' := [some (aI x), some (aI (v + ((x / 2 ^ (Int.toNat i)) % 2 ^ 1))), some (aI (i + 1))]) dX12_bits_18 rfl (by decide) rfl rfl rfl ?_
        refine j_goto (pc' := 4) dX12_bits_21 (by decide) ?_
        exact ih4 _ (by omega) (v + ((x / 2 ^ (Int.toNat i)) % 2 ^ 1)) (i + 1) (by omega) (by rw [sumI_s (by omega), ← hv]; rfl) rfl
  exact lp4 _ 0 0 (by omega) (by rfl) rfl
set_option maxRecDepth 100000 in
set_option maxHeartbeats 4000000 in
theorem c_Mod_wrongPairs {l : Launch} {w : AW} {D Di : Int → Int → Int} {n mi hi ni mj : Int} {sh E : Int → Int → Int} {d : Int} (hM : Mod w D n mi hi Di ni mj sh E) (hB : CarOK D n mi) (hsh : ShOK sh E) (hd : inI d) : Call l m_Mod_wrongPairs false 68 68 [aR 53, aI d] w (rt (some (aI (pairsR sh E d))) w) := by
  have hT := MS.rf hM
  have hM0 := hM
  obtain ⟨⟨pc, ra, re, fm, se, th, hO⟩, ⟨S, hS, hR⟩, ⟨Sm, hSm⟩, ⟨Si, hSi, hRi⟩, ⟨Sw, hSw⟩, ⟨nu, hnu⟩, ⟨ha, hha⟩, ⟨fg, hfg⟩, ke, kk, kf, so, si, el, ⟨hke, hkk, hkf, hso, hsi, hel⟩, hRel⟩ := hM
  obtain ⟨hn, hD, hs0, hs1, hs2, hs3⟩ := id hB
  refine Call.of (L := [some (aR 53), some (aI d), none, none]) rfl (Nat.le_of_ble_eq_true rfl) rfl (fun G ad => ?_)
  refine j_aload_n (pc' := 1) (z := 53) dX12_wrongPairs_0 rfl rfl ?_
  refine j_iload_n (pc' := 2) (z := d) dX12_wrongPairs_1 rfl rfl ?_
  refine j_iconst (pc' := 3) dX12_wrongPairs_2 rfl ?_
  refine j_callV (pc' := 6) (as := [aI d, aI (-1)]) (rest := []) dX12_wrongPairs_3 rfl s_Mod_127 (c_Mod_wrongRowN hT.1 hB hsh (by omega)) (by omega) hO rfl rfl rfl rfl (jdet (st' := [aI (rowR sh d)]) rfl ?_)
  refine j_istore_n (pc' := 7) (L' := [some (aR 53), some (aI d), some (aI (rowR sh d)), none]) dX12_wrongPairs_6 rfl (by decide) rfl ?_
  have hrb := rowR_bd (sh := sh) (d := d)
  refine j_iload_n (pc' := 8) (z := (rowR sh d)) dX12_wrongPairs_7 rfl rfl ?_
  refine j_if_eq (tgt := 13) (pc' := 11) dX12_wrongPairs_8 (by decide) rfl (by omega) (fun h8 => ?_) (fun h8 => ?_)
  · obtain ⟨hd7, hct⟩ := rowR_0 h8
    obtain ⟨q1, q2, q3, q4, q5, q6⟩ := id (hsh d (by omega))
    refine j_aload_n (pc' := 14) (z := 53) dX12_wrongPairs_13 rfl rfl ?_
    refine j_get (pc' := 17) (v := aR 65) dX12_wrongPairs_14 rfl f_Mod_43 (by omega) hO rfl ?_
    refine j_iload_n (pc' := 18) (z := d) dX12_wrongPairs_17 rfl rfl ?_
    refine j_iald (pc' := 19) dX12_wrongPairs_18 rfl (by omega) hsi (by omega) (by decide) ?_
    refine j_top (b := sh 4 d) ((hRel d (by omega)).2.2 (by omega)).2.1 ?_
    refine j_iconst (pc' := 20) dX12_wrongPairs_19 rfl ?_
    refine j_irem (pc' := 21) dX12_wrongPairs_20 rfl (by omega) (by omega) ?_
    refine j_iconst (pc' := 22) dX12_wrongPairs_21 rfl ?_
    refine j_icmp_ne (tgt := 28) (pc' := 25) dX12_wrongPairs_22 (by decide) rfl (by omega) (by omega) (fun h22 => ?_) (fun h22 => ?_)
    · refine j_iconst (pc' := 29) dX12_wrongPairs_28 rfl ?_
      refine j_istore_n (pc' := 30) (L' := [some (aR 53), some (aI d), some (aI (rowR sh d)), some (aI 0)]) dX12_wrongPairs_29 rfl (by decide) rfl ?_
      have lp30 : ∀ (k9 : Nat) (i : Int), (0 ≤ i ∧ i ≤ sh 4 d ∧ i % 2 = 0) → (allI (pairP (E d)) (i / 2) = true) → ((sh 4 d - i).toNat) = k9 → J l m_Mod_wrongPairs ad G [] false (jZ ad G false 68 m_Mod_wrongPairs.2.2.2.2.cells m_Mod_wrongPairs.2.2.2.2.slots (rt (some (aI (pairsR sh E d))) w)) 68 0 0 30 [some (aR 53), some (aI d), some (aI (rowR sh d)), some (aI i)] [] w := by
        intro k9
        induction k9 using Nat.strongRecOn with
        | _ k9 ih30 =>
          intro i hi9 ha hk30
          refine j_iload_n (pc' := 31) (z := i) dX12_wrongPairs_30 rfl rfl ?_
          refine j_aload_n (pc' := 32) (z := 53) dX12_wrongPairs_31 rfl rfl ?_
          refine j_get (pc' := 35) (v := aR 65) dX12_wrongPairs_32 rfl f_Mod_43 (by omega) hO rfl ?_
          refine j_iload_n (pc' := 36) (z := d) dX12_wrongPairs_35 rfl rfl ?_
          refine j_iald (pc' := 37) dX12_wrongPairs_36 rfl (by omega) hsi (by omega) (by decide) ?_
          refine j_top (b := sh 4 d) ((hRel d (by omega)).2.2 (by omega)).2.1 ?_
          refine j_icmp_ge (tgt := 90) (pc' := 40) dX12_wrongPairs_37 (by decide) rfl (by omega) (by omega) (fun h37 => ?_) (fun h37 => ?_)
          · refine j_iconst (pc' := 91) dX12_wrongPairs_90 rfl ?_
            exact j_iret dX12_wrongPairs_91 rfl (rt_eq (by unfold pairsR; rw [if_pos h8, if_pos (pairs_ok (by omega) (by rw [show sh 4 d = i by omega]; exact ha))]))
          · have hEi := q6 i (by omega) (by omega)
            have hEj := q6 (i + 1) (by omega) (by omega)
            refine j_aload_n (pc' := 41) (z := 53) dX12_wrongPairs_40 rfl rfl ?_
            refine j_get (pc' := 44) (v := aR 66) dX12_wrongPairs_41 rfl f_Mod_46 (by omega) hO rfl ?_
            refine j_bipush (pc' := 46) dX12_wrongPairs_44 rfl (by decide) ?_
            refine j_iload_n (pc' := 47) (z := d) dX12_wrongPairs_46 rfl rfl ?_
            refine j_imul (pc' := 48) dX12_wrongPairs_47 rfl ?_
            refine j_iload_n (pc' := 49) (z := i) dX12_wrongPairs_48 rfl rfl ?_
            refine j_iadd (pc' := 50) dX12_wrongPairs_49 rfl ?_
            refine j_iald (pc' := 51) dX12_wrongPairs_50 rfl (by omega) hel (by omega) (by decide) ?_
            refine j_top (b := E d i) (((hRel d (by omega)).2.2 (by omega)).2.2 i (by omega)) ?_
            refine j_iconst (pc' := 52) dX12_wrongPairs_51 rfl ?_
            refine j_bipush (pc' := 54) dX12_wrongPairs_52 rfl (by decide) ?_
            refine j_callS (pc' := 57) (as := [aI (E d i), aI 0, aI 99]) (rest := []) dX12_wrongPairs_54 rfl s_Mod_49 (c_Mod_isIn (by omega) (by omega) (by omega)) rfl rfl rfl (jdet (st' := [aB (0 ≤ E d i ∧ E d i ≤ 99)]) rfl ?_)
            refine j_ifb_eq (tgt := 81) (pc' := 60) dX12_wrongPairs_57 (by decide) rfl (fun h57 => ?_) (fun h57 => ?_)
            · refine j_bipush (pc' := 83) dX12_wrongPairs_81 rfl (by decide) ?_
              exact j_iret dX12_wrongPairs_83 rfl (rt_eq (by unfold pairsR; rw [if_pos h8, if_neg (pairs_bad (i := i) (by omega) (by omega) (by omega))]))
            · refine j_aload_n (pc' := 61) (z := 53) dX12_wrongPairs_60 rfl rfl ?_
              refine j_get (pc' := 64) (v := aR 66) dX12_wrongPairs_61 rfl f_Mod_46 (by omega) hO rfl ?_
              refine j_bipush (pc' := 66) dX12_wrongPairs_64 rfl (by decide) ?_
              refine j_iload_n (pc' := 67) (z := d) dX12_wrongPairs_66 rfl rfl ?_
              refine j_imul (pc' := 68) dX12_wrongPairs_67 rfl ?_
              refine j_iload_n (pc' := 69) (z := i) dX12_wrongPairs_68 rfl rfl ?_
              refine j_iadd (pc' := 70) dX12_wrongPairs_69 rfl ?_
              refine j_iconst (pc' := 71) dX12_wrongPairs_70 rfl ?_
              refine j_iadd (pc' := 72) dX12_wrongPairs_71 rfl ?_
              refine j_iald (pc' := 73) dX12_wrongPairs_72 rfl (by omega) hel (by omega) (by decide) ?_
              refine j_top (b := E d (i + 1)) (by have h9 := ((hRel d (by omega)).2.2 (by omega)).2.2 (i + 1) (by omega); rw [show 100 * d + (i + 1) = 100 * d + i + 1 by omega] at h9; exact h9) ?_
              refine j_iconst (pc' := 74) dX12_wrongPairs_73 rfl ?_
              refine j_iconst (pc' := 75) dX12_wrongPairs_74 rfl ?_
              refine j_callS (pc' := 78) (as := [aI (E d (i + 1)), aI 0, aI 1]) (rest := []) dX12_wrongPairs_75 rfl s_Mod_49 (c_Mod_isIn (by omega) (by omega) (by omega)) rfl rfl rfl (jdet (st' := [aB (0 ≤ E d (i + 1) ∧ E d (i + 1) ≤ 1)]) rfl ?_)
              refine j_ifb_ne (tgt := 84) (pc' := 81) dX12_wrongPairs_78 (by decide) rfl (fun h78 => ?_) (fun h78 => ?_)
              · refine j_iinc (pc' := 87) (z := i) (L' := [some (aR 53), some (aI d), some (aI (rowR sh d)), some (aI (i + 2))]) dX12_wrongPairs_84 rfl (by decide) rfl rfl rfl ?_
                refine j_goto (pc' := 30) dX12_wrongPairs_87 (by decide) ?_
                exact ih30 _ (by omega) (i + 2) (by omega) (by exact pairs_s (by omega) (by omega) ha (by omega)) rfl
              · refine j_bipush (pc' := 83) dX12_wrongPairs_81 rfl (by decide) ?_
                exact j_iret dX12_wrongPairs_83 rfl (rt_eq (by unfold pairsR; rw [if_pos h8, if_neg (pairs_bad (i := i) (by omega) (by omega) (by omega))]))
      exact lp30 _ 0 (by omega) (by rfl) rfl
    · refine j_bipush (pc' := 27) dX12_wrongPairs_25 rfl (by decide) ?_
      exact j_iret dX12_wrongPairs_27 rfl (rt_eq (by unfold pairsR; rw [if_pos h8, if_neg (pairs_no (by omega))]))
  · refine j_iload_n (pc' := 12) (z := (rowR sh d)) dX12_wrongPairs_11 rfl rfl ?_
    exact j_iret dX12_wrongPairs_12 rfl (rt_eq (by unfold pairsR; rw [if_neg h8]))
set_option maxRecDepth 100000 in
set_option maxHeartbeats 4000000 in
theorem c_Mod_isTold {l : Launch} {w : AW} {D Di : Int → Int → Int} {n mi hi ni mj : Int} {sh E : Int → Int → Int} {d x : Int} (hM : Mod w D n mi hi Di ni mj sh E) (hB : CarOK D n mi) (hsh : ShOK sh E) (hd7 : 0 ≤ d ∧ d ≤ 7) (hct : sh 0 d = 2) (hpr : pairsB (E d) (sh 4 d) = true) (hx : 0 ≤ x ∧ x ≤ 127) : Call l m_Mod_isTold false 68 68 [aR 53, aI d, aI x] w (rt (some (aB (toldB D n (E d) (sh 4 d) x = true))) w) := by
  have hT := MS.rf hM
  have hM0 := hM
  obtain ⟨⟨pc, ra, re, fm, se, th, hO⟩, ⟨S, hS, hR⟩, ⟨Sm, hSm⟩, ⟨Si, hSi, hRi⟩, ⟨Sw, hSw⟩, ⟨nu, hnu⟩, ⟨ha, hha⟩, ⟨fg, hfg⟩, ke, kk, kf, so, si, el, ⟨hke, hkk, hkf, hso, hsi, hel⟩, hRel⟩ := hM
  obtain ⟨hn, hD, hs0, hs1, hs2, hs3⟩ := id hB
  obtain ⟨q1, q2, q3, q4, q5, q6⟩ := id (hsh d (by omega))
  have hev := pair_ev hpr
  refine Call.of (L := [some (aR 53), some (aI d), some (aI x), none, none, none]) rfl (Nat.le_of_ble_eq_true rfl) rfl (fun G ad => ?_)
  refine j_iconst (pc' := 1) dX12_isTold_0 rfl ?_
  refine j_istore_n (pc' := 2) (L' := [some (aR 53), some (aI d), some (aI x), some (aI 0), none, none]) dX12_isTold_1 rfl (by decide) rfl ?_
  have lp2 : ∀ (k9 : Nat) (i : Int), (0 ≤ i ∧ i ≤ sh 4 d ∧ i % 2 = 0) → (allI (toldP D n (E d) x) (i / 2) = true) → ((sh 4 d - i).toNat) = k9 → J l m_Mod_isTold ad G [] false (jZ ad G false 68 m_Mod_isTold.2.2.2.2.cells m_Mod_isTold.2.2.2.2.slots (rt (some (aB (toldB D n (E d) (sh 4 d) x = true))) w)) 68 0 0 2 [some (aR 53), some (aI d), some (aI x), some (aI i), none, none] [] w := by
    intro k9
    induction k9 using Nat.strongRecOn with
    | _ k9 ih2 =>
      intro i hi ha hk2
      refine j_iload_n (pc' := 3) (z := i) dX12_isTold_2 rfl rfl ?_
      refine j_aload_n (pc' := 4) (z := 53) dX12_isTold_3 rfl rfl ?_
      refine j_get (pc' := 7) (v := aR 65) dX12_isTold_4 rfl f_Mod_43 (by omega) hO rfl ?_
      refine j_iload_n (pc' := 8) (z := d) dX12_isTold_7 rfl rfl ?_
      refine j_iald (pc' := 9) dX12_isTold_8 rfl (by omega) hsi (by omega) (by decide) ?_
      refine j_top (b := sh 4 d) ((hRel d (by omega)).2.2 (by omega)).2.1 ?_
      refine j_icmp_ge (tgt := 113) (pc' := 12) dX12_isTold_9 (by decide) rfl (by omega) (by omega) (fun h9 => ?_) (fun h9 => ?_)
      · refine j_iconst (pc' := 114) dX12_isTold_113 rfl ?_
        exact j_zret1 dX12_isTold_114 rfl (rt_b1 (by exact told_ok (i := i) (by omega) hev (by omega) ha))
      · refine j_iconst (pc' := 13) dX12_isTold_12 rfl ?_
        refine j_istore (pc' := 15) (L' := [some (aR 53), some (aI d), some (aI x), some (aI i), some (aI 0), none]) dX12_isTold_13 rfl (by decide) rfl ?_
        have hpi := pair_at hpr (i := i) (by omega) (by omega)
        refine j_iconst (pc' := 16) dX12_isTold_15 rfl ?_
        refine j_istore (pc' := 18) (L' := [some (aR 53), some (aI d), some (aI x), some (aI i), some (aI 0), some (aI 0)]) dX12_isTold_16 rfl (by decide) rfl ?_
        have lp18 : ∀ (k9 : Nat) (z : Int) (p : Int), (0 ≤ p ∧ p ≤ n) → (0 ≤ z ∧ z ≤ 1) → (z = if anyI (fun p => decide (bt x p = 1) && ratP D (E d i) p) p = true then 1 else 0) → ((n - p).toNat) = k9 → J l m_Mod_isTold ad G [] false (jZ ad G false 68 m_Mod_isTold.2.2.2.2.cells m_Mod_isTold.2.2.2.2.slots (rt (some (aB (toldB D n (E d) (sh 4 d) x = true))) w)) 68 0 0 18 [some (aR 53), some (aI d), some (aI x), some (aI i), some (aI z), some (aI p)] [] w := by
          intro k9
          induction k9 using Nat.strongRecOn with
          | _ k9 ih18 =>
            intro z p hp9 hz01 hz hk18
            refine j_iload (pc' := 20) (z := p) dX12_isTold_18 rfl rfl ?_
            refine j_aload_n (pc' := 21) (z := 53) dX12_isTold_20 rfl rfl ?_
            refine j_get (pc' := 24) (v := aR 54) dX12_isTold_21 rfl f_Mod_9 (by omega) hO rfl ?_
            refine j_iconst (pc' := 25) dX12_isTold_24 rfl ?_
            refine j_iald (pc' := 26) dX12_isTold_25 rfl (by omega) hS (by omega) (by decide) ?_
            refine j_top (b := n) hR.pn ?_
            refine j_icmp_ge (tgt := 78) (pc' := 29) dX12_isTold_26 (by decide) rfl (by omega) (by omega) (fun h26 => ?_) (fun h26 => ?_)
            · have hzz : z = 1 ↔ ratB D n x (E d i) = true := by
                have e9 : ratB D n x (E d i) = anyI (fun p => decide (bt x p = 1) && ratP D (E d i) p) p := by rw [show p = n by omega]; rfl
                rw [e9, hz]; split <;> simp_all
              refine j_iload (pc' := 80) (z := z) dX12_isTold_78 rfl rfl ?_
              refine j_aload_n (pc' := 81) (z := 53) dX12_isTold_80 rfl rfl ?_
              refine j_get (pc' := 84) (v := aR 66) dX12_isTold_81 rfl f_Mod_46 (by omega) hO rfl ?_
              refine j_bipush (pc' := 86) dX12_isTold_84 rfl (by decide) ?_
              refine j_iload_n (pc' := 87) (z := d) dX12_isTold_86 rfl rfl ?_
              refine j_imul (pc' := 88) dX12_isTold_87 rfl ?_
              refine j_iload_n (pc' := 89) (z := i) dX12_isTold_88 rfl rfl ?_
              refine j_iadd (pc' := 90) dX12_isTold_89 rfl ?_
              refine j_iconst (pc' := 91) dX12_isTold_90 rfl ?_
              refine j_iadd (pc' := 92) dX12_isTold_91 rfl ?_
              refine j_iald (pc' := 93) dX12_isTold_92 rfl (by omega) hel (by omega) (by decide) ?_
              refine j_top (b := E d (i + 1)) (by have h9 := ((hRel d (by omega)).2.2 (by omega)).2.2 (i + 1) (by omega); rw [show 100 * d + (i + 1) = 100 * d + i + 1 by omega] at h9; exact h9) ?_
              refine j_iconst (pc' := 94) dX12_isTold_93 rfl ?_
              refine j_icmp_ne (tgt := 101) (pc' := 97) dX12_isTold_94 (by decide) rfl (by omega) (by omega) (fun h94 => ?_) (fun h94 => ?_)
              · refine j_iconst (pc' := 102) dX12_isTold_101 rfl ?_
                refine j_icmp_eq (tgt := 107) (pc' := 105) dX12_isTold_102 (by decide) rfl (by omega) (by omega) (fun h102 => ?_) (fun h102 => ?_)
                · refine j_iinc (pc' := 110) (z := i) (L' := [some (aR 53), some (aI d), some (aI x), some (aI (i + 2)), some (aI z), some (aI p)]) dX12_isTold_107 rfl (by decide) rfl rfl rfl ?_
                  refine j_goto (pc' := 2) dX12_isTold_110 (by decide) ?_
                  refine j_forget 4 (L' := [some (aR 53), some (aI d), some (aI x), some (aI (i + 2)), none, some (aI p)]) rfl ?_
                  refine j_forget 5 (L' := [some (aR 53), some (aI d), some (aI x), some (aI (i + 2)), none, none]) rfl ?_
                  exact ih2 _ (by omega) (i + 2) (by omega) (by exact told_s (by omega) (by omega) ha (by rw [← hzz]; omega)) rfl
                · refine j_iconst (pc' := 106) dX12_isTold_105 rfl ?_
                  exact j_zret0 dX12_isTold_106 rfl (rt_b0 (by exact told_bad (i := i) (by omega) (by omega) (by rw [← hzz]; omega)))
              · refine j_iconst (pc' := 98) dX12_isTold_97 rfl ?_
                refine j_goto (pc' := 102) dX12_isTold_98 (by decide) ?_
                refine j_icmp_eq (tgt := 107) (pc' := 105) dX12_isTold_102 (by decide) rfl (by omega) (by omega) (fun h102 => ?_) (fun h102 => ?_)
                · refine j_iinc (pc' := 110) (z := i) (L' := [some (aR 53), some (aI d), some (aI x), some (aI (i + 2)), some (aI z), some (aI p)]) dX12_isTold_107 rfl (by decide) rfl rfl rfl ?_
                  refine j_goto (pc' := 2) dX12_isTold_110 (by decide) ?_
                  refine j_forget 4 (L' := [some (aR 53), some (aI d), some (aI x), some (aI (i + 2)), none, some (aI p)]) rfl ?_
                  refine j_forget 5 (L' := [some (aR 53), some (aI d), some (aI x), some (aI (i + 2)), none, none]) rfl ?_
                  exact ih2 _ (by omega) (i + 2) (by omega) (by exact told_s (by omega) (by omega) ha (by rw [← hzz]; omega)) rfl
                · refine j_iconst (pc' := 106) dX12_isTold_105 rfl ?_
                  exact j_zret0 dX12_isTold_106 rfl (rt_b0 (by exact told_bad (i := i) (by omega) (by omega) (by rw [← hzz]; omega)))
            · have hbt : bt x p = x / 2 ^ (Int.toNat p) % 2 ^ 1 := rfl
              have hlb := lds_bd (p := p) (pace := E d i) hB (by omega)
              have hratp : ratP D (E d i) p = true ↔ 0 < lds D p (E d i) := decide_eq_true_iff
              refine j_iload (pc' := 31) (z := z) dX12_isTold_29 rfl rfl ?_
              refine j_iload_n (pc' := 32) (z := x) dX12_isTold_31 rfl rfl ?_
              refine j_iload (pc' := 34) (z := p) dX12_isTold_32 rfl rfl ?_
              refine j_ishr (pc' := 35) dX12_isTold_34 rfl (by omega) (by omega) ?_
              refine j_iconst (pc' := 36) dX12_isTold_35 rfl ?_
              refine j_imask (pc' := 37) 1 dX12_isTold_36 rfl (by decide) rfl ?_
              refine j_iconst (pc' := 38) dX12_isTold_37 rfl ?_
              refine j_icmp_ne (tgt := 68) (pc' := 41) dX12_isTold_38 (by decide) rfl (by omega) (by omega) (fun h38 => ?_) (fun h38 => ?_)
              · refine j_iconst (pc' := 69) dX12_isTold_68 rfl ?_
                refine j_ior (pc' := 70) (a := z) (b := 0) dX12_isTold_69 rfl (by omega) (by omega) ?_
                refine j_top (b := z) (or01 hz01).1 ?_
                refine j_istore (pc' := 72) (L' := [some (aR 53), some (aI d), some (aI x), some (aI i), some (aI z), some (aI p)]) dX12_isTold_70 rfl (by decide) rfl ?_
                refine j_iinc (pc' := 75) (z := p) (L' := [some (aR 53), some (aI d), some (aI x), some (aI i), some (aI z), some (aI (p + 1))]) dX12_isTold_72 rfl (by decide) rfl rfl rfl ?_
                refine j_goto (pc' := 18) dX12_isTold_75 (by decide) ?_
                exact ih18 _ (by omega) z (p + 1) (by omega) (by omega) (by rw [hz, anyI_s (by omega)]; have e9 : (decide (bt x p = 1) && ratP D (E d i) p) = false := (by rw [Bool.eq_false_iff]; intro q9; rw [Bool.and_eq_true, decide_eq_true_iff, hratp] at q9; omega); rw [e9, Bool.or_false]) rfl
              · refine j_aload_n (pc' := 42) (z := 53) dX12_isTold_41 rfl rfl ?_
                refine j_get (pc' := 45) (v := aR 54) dX12_isTold_42 rfl f_Mod_9 (by omega) hO rfl ?_
                refine j_iload (pc' := 47) (z := p) dX12_isTold_45 rfl rfl ?_
                refine j_aload_n (pc' := 48) (z := 53) dX12_isTold_47 rfl rfl ?_
                refine j_get (pc' := 51) (v := aR 66) dX12_isTold_48 rfl f_Mod_46 (by omega) hO rfl ?_
                refine j_bipush (pc' := 53) dX12_isTold_51 rfl (by decide) ?_
                refine j_iload_n (pc' := 54) (z := d) dX12_isTold_53 rfl rfl ?_
                refine j_imul (pc' := 55) dX12_isTold_54 rfl ?_
                refine j_iload_n (pc' := 56) (z := i) dX12_isTold_55 rfl rfl ?_
                refine j_iadd (pc' := 57) dX12_isTold_56 rfl ?_
                refine j_iald (pc' := 58) dX12_isTold_57 rfl (by omega) hel (by omega) (by decide) ?_
                refine j_top (b := E d i) (((hRel d (by omega)).2.2 (by omega)).2.2 i (by omega)) ?_
                refine j_callS (pc' := 61) (as := [aR 54, aI p, aI (E d i)]) (rest := [aI z]) dX12_isTold_58 rfl s_Mod_60 (c_Mod_loudOf hS (by omega) hR.w hB (by omega) (by omega)) rfl rfl rfl (jdet (st' := [aI (lds D p (E d i)), aI z]) rfl ?_)
                refine j_if_le (tgt := 68) (pc' := 64) dX12_isTold_61 (by decide) rfl (by omega) (fun h61 => ?_) (fun h61 => ?_)
                · refine j_iconst (pc' := 69) dX12_isTold_68 rfl ?_
                  refine j_ior (pc' := 70) (a := z) (b := 0) dX12_isTold_69 rfl (by omega) (by omega) ?_
                  refine j_top (b := z) (or01 hz01).1 ?_
                  refine j_istore (pc' := 72) (L' := [some (aR 53), some (aI d), some (aI x), some (aI i), some (aI z), some (aI p)]) dX12_isTold_70 rfl (by decide) rfl ?_
                  refine j_iinc (pc' := 75) (z := p) (L' := [some (aR 53), some (aI d), some (aI x), some (aI i), some (aI z), some (aI (p + 1))]) dX12_isTold_72 rfl (by decide) rfl rfl rfl ?_
                  refine j_goto (pc' := 18) dX12_isTold_75 (by decide) ?_
                  exact ih18 _ (by omega) z (p + 1) (by omega) (by omega) (by rw [hz, anyI_s (by omega)]; have e9 : (decide (bt x p = 1) && ratP D (E d i) p) = false := (by rw [Bool.eq_false_iff]; intro q9; rw [Bool.and_eq_true, decide_eq_true_iff, hratp] at q9; omega); rw [e9, Bool.or_false]) rfl
                · refine j_iconst (pc' := 65) dX12_isTold_64 rfl ?_
                  refine j_goto (pc' := 69) dX12_isTold_65 (by decide) ?_
                  refine j_ior (pc' := 70) (a := z) (b := 1) dX12_isTold_69 rfl (by omega) (by omega) ?_
                  refine j_top (b := 1) (or01 hz01).2 ?_
                  refine j_istore (pc' := 72) (L' := [some (aR 53), some (aI d), some (aI x), some (aI i), some (aI 1), some (aI p)]) dX12_isTold_70 rfl (by decide) rfl ?_
                  refine j_iinc (pc' := 75) (z := p) (L' := [some (aR 53), some (aI d), some (aI x), some (aI i), some (aI 1), some (aI (p + 1))]) dX12_isTold_72 rfl (by decide) rfl rfl rfl ?_
                  refine j_goto (pc' := 18) dX12_isTold_75 (by decide) ?_
                  exact ih18 _ (by omega) 1 (p + 1) (by omega) (by omega) (by rw [anyI_s (by omega), if_pos (by rw [Bool.or_eq_true]; right; rw [Bool.and_eq_true, decide_eq_true_iff]; exact ⟨by omega, hratp.mpr (by omega)⟩)]) rfl
        exact lp18 _ 0 0 (by omega) (by omega) (by rfl) rfl
  exact lp2 _ 0 (by omega) (by rfl) rfl
set_option maxRecDepth 100000 in
set_option maxHeartbeats 4000000 in
theorem c_Mod_whichOf {l : Launch} {w : AW} {D Di : Int → Int → Int} {n mi hi ni mj : Int} {sh E : Int → Int → Int} {d : Int} (hM : Mod w D n mi hi Di ni mj sh E) (hB : CarOK D n mi) (hsh : ShOK sh E) (hd7 : 0 ≤ d ∧ d ≤ 7) (hct : sh 0 d = 2) (hpr : pairsB (E d) (sh 4 d) = true) : Call l m_Mod_whichOf false 68 68 [aR 53, aI d] w (rt (some (aI (susS D n (E d) (sh 4 d)))) w) := by
  have hT := MS.rf hM
  have hM0 := hM
  obtain ⟨⟨pc, ra, re, fm, se, th, hO⟩, ⟨S, hS, hR⟩, ⟨Sm, hSm⟩, ⟨Si, hSi, hRi⟩, ⟨Sw, hSw⟩, ⟨nu, hnu⟩, ⟨ha, hha⟩, ⟨fg, hfg⟩, ke, kk, kf, so, si, el, ⟨hke, hkk, hkf, hso, hsi, hel⟩, hRel⟩ := hM
  obtain ⟨hn, hD, hs0, hs1, hs2, hs3⟩ := id hB
  refine Call.of (L := [some (aR 53), some (aI d), none, none]) rfl (Nat.le_of_ble_eq_true rfl) rfl (fun G ad => ?_)
  refine j_iconst (pc' := 1) dX12_whichOf_0 rfl ?_
  refine j_istore_n (pc' := 2) (L' := [some (aR 53), some (aI d), some (aI 0), none]) dX12_whichOf_1 rfl (by decide) rfl ?_
  refine j_iconst (pc' := 3) dX12_whichOf_2 rfl ?_
  refine j_istore_n (pc' := 4) (L' := [some (aR 53), some (aI d), some (aI 0), some (aI 0)]) dX12_whichOf_3 rfl (by decide) rfl ?_
  have lp4 : ∀ (k9 : Nat) (v : Int) (i : Int), (0 ≤ i ∧ i ≤ n) → (v = bset (susP D n (E d) (sh 4 d)) i) → (0 ≤ v ∧ v ≤ 127) → ((n - i).toNat) = k9 → J l m_Mod_whichOf ad G [] false (jZ ad G false 68 m_Mod_whichOf.2.2.2.2.cells m_Mod_whichOf.2.2.2.2.slots (rt (some (aI (susS D n (E d) (sh 4 d)))) w)) 68 0 0 4 [some (aR 53), some (aI d), some (aI v), some (aI i)] [] w := by
    intro k9
    induction k9 using Nat.strongRecOn with
    | _ k9 ih4 =>
      intro v i hi hv hvb hk4
      refine j_iload_n (pc' := 5) (z := i) dX12_whichOf_4 rfl rfl ?_
      refine j_aload_n (pc' := 6) (z := 53) dX12_whichOf_5 rfl rfl ?_
      refine j_get (pc' := 9) (v := aR 54) dX12_whichOf_6 rfl f_Mod_9 (by omega) hO rfl ?_
      refine j_iconst (pc' := 10) dX12_whichOf_9 rfl ?_
      refine j_iald (pc' := 11) dX12_whichOf_10 rfl (by omega) hS (by omega) (by decide) ?_
      refine j_top (b := n) hR.pn ?_
      refine j_icmp_ge (tgt := 41) (pc' := 14) dX12_whichOf_11 (by decide) rfl (by omega) (by omega) (fun h11 => ?_) (fun h11 => ?_)
      · refine j_iload_n (pc' := 42) (z := v) dX12_whichOf_41 rfl rfl ?_
        exact j_iret dX12_whichOf_42 rfl (rt_eq (by rw [hv, show i = n by omega]; rfl))
      · have hpw := pow7 (n := i) (by omega)
        have hpx := two_pos (Int.toNat i)
        have hp6 : (2 : Int) ^ (Int.toNat i) ≤ 64 := by have := pow7 (n := i + 1) (by omega); rw [show (i + 1).toNat = i.toNat + 1 by omega, Int.pow_succ] at this; omega
        refine j_iload_n (pc' := 15) (z := v) dX12_whichOf_14 rfl rfl ?_
        refine j_aload_n (pc' := 16) (z := 53) dX12_whichOf_15 rfl rfl ?_
        refine j_iload_n (pc' := 17) (z := d) dX12_whichOf_16 rfl rfl ?_
        refine j_iconst (pc' := 18) dX12_whichOf_17 rfl ?_
        refine j_iload_n (pc' := 19) (z := i) dX12_whichOf_18 rfl rfl ?_
        refine j_ishl1 (pc' := 20) dX12_whichOf_19 rfl (by omega) ?_
        refine j_callV (pc' := 23) (as := [aI d, aI (2 ^ (Int.toNat i))]) (rest := [aI v]) dX12_whichOf_20 rfl s_Mod_156 (c_Mod_isTold hM0 hB hsh hd7 hct hpr (by omega)) (by omega) hO rfl rfl rfl rfl (jdet (st' := [aB (toldB D n (E d) (sh 4 d) (2 ^ (Int.toNat i)) = true), aI v]) rfl ?_)
        refine j_ifb_eq (tgt := 32) (pc' := 26) dX12_whichOf_23 (by decide) rfl (fun h23 => ?_) (fun h23 => ?_)
        · refine j_iconst (pc' := 33) dX12_whichOf_32 rfl ?_
          refine j_ior (pc' := 34) (a := v) (b := 0) dX12_whichOf_33 rfl (by omega) (by omega) ?_
          refine j_istore_n (pc' := 35) (L' := [some (aR 53), some (aI d), some (aI (orI v 0)), some (aI i)]) dX12_whichOf_34 rfl (by decide) rfl ?_
          refine j_iinc (pc' := 38) (z := i) (L' := [some (aR 53), some (aI d), some (aI (orI v 0)), some (aI (i + 1))]) dX12_whichOf_35 rfl (by decide) rfl rfl rfl ?_
          refine j_goto (pc' := 4) dX12_whichOf_38 (by decide) ?_
          exact ih4 _ (by omega) (orI v 0) (i + 1) (by omega) (by rw [hv]; exact bset_or (by omega) (by unfold susP; first | rw [if_pos h23] | rw [if_neg h23])) (by rw [hv, bset_or (P := susP D n (E d) (sh 4 d)) (by omega) (by unfold susP; first | rw [if_pos h23] | rw [if_neg h23])]; exact bset_127 (by omega)) rfl
        · refine j_iconst (pc' := 27) dX12_whichOf_26 rfl ?_
          refine j_iload_n (pc' := 28) (z := i) dX12_whichOf_27 rfl rfl ?_
          refine j_ishl1 (pc' := 29) dX12_whichOf_28 rfl (by omega) ?_
          refine j_goto (pc' := 33) dX12_whichOf_29 (by decide) ?_
          refine j_ior (pc' := 34) (a := v) (b := 2 ^ (Int.toNat i)) dX12_whichOf_33 rfl (by omega) (by omega) ?_
          refine j_istore_n (pc' := 35) (L' := [some (aR 53), some (aI d), some (aI (orI v (2 ^ (Int.toNat i)))), some (aI i)]) dX12_whichOf_34 rfl (by decide) rfl ?_
          refine j_iinc (pc' := 38) (z := i) (L' := [some (aR 53), some (aI d), some (aI (orI v (2 ^ (Int.toNat i)))), some (aI (i + 1))]) dX12_whichOf_35 rfl (by decide) rfl rfl rfl ?_
          refine j_goto (pc' := 4) dX12_whichOf_38 (by decide) ?_
          exact ih4 _ (by omega) (orI v (2 ^ (Int.toNat i))) (i + 1) (by omega) (by rw [hv]; exact bset_or (by omega) (by unfold susP; first | rw [if_pos h23] | rw [if_neg h23])) (by rw [hv, bset_or (P := susP D n (E d) (sh 4 d)) (by omega) (by unfold susP; first | rw [if_pos h23] | rw [if_neg h23])]; exact bset_127 (by omega)) rfl
  exact lp4 _ 0 0 (by omega) (by rfl) (by omega) rfl
set_option maxRecDepth 100000 in
set_option maxHeartbeats 4000000 in
theorem c_Mod_which {l : Launch} {w : AW} {D Di : Int → Int → Int} {n mi hi ni mj : Int} {sh E : Int → Int → Int} {d x : Int} (hM : Mod w D n mi hi Di ni mj sh E) (hB : CarOK D n mi) (hI : CarOK Di ni mj) (hhi : hi = 0 ∨ hi = 1) (hsh : ShOK sh E) (hwd : WdOK D) (hd : inI d) (hx : inI x) : Call l m_Mod_which false 68 68 [aR 53, aI d, aI x] w (jM w (whichA D n sh E d x) D n mi hi Di ni mj sh E) := by
  have hT := MS.rf hM
  have hM0 := hM
  obtain ⟨⟨pc, ra, re, fm, se, th, hO⟩, ⟨S, hS, hR⟩, ⟨Sm, hSm⟩, ⟨Si, hSi, hRi⟩, ⟨Sw, hSw⟩, ⟨nu, hnu⟩, ⟨ha, hha⟩, ⟨fg, hfg⟩, ke, kk, kf, so, si, el, ⟨hke, hkk, hkf, hso, hsi, hel⟩, hRel⟩ := hM
  obtain ⟨hn, hD, hs0, hs1, hs2, hs3⟩ := id hB
  refine Call.of (L := [some (aR 53), some (aI d), some (aI x), none]) rfl (Nat.le_of_ble_eq_true rfl) rfl (fun G ad => ?_)
  refine j_iload_n (pc' := 1) (z := x) dX12_which_0 rfl rfl ?_
  refine j_iconst (pc' := 2) dX12_which_1 rfl ?_
  refine j_iconst (pc' := 3) dX12_which_2 rfl ?_
  refine j_callS (pc' := 6) (as := [aI x, aI 0, aI 1]) (rest := []) dX12_which_3 rfl s_Mod_49 (c_Mod_isIn (by omega) (by omega) (by omega)) rfl rfl rfl (jdet (st' := [aB (0 ≤ x ∧ x ≤ 1)]) rfl ?_)
  refine j_ifb_ne (tgt := 11) (pc' := 9) dX12_which_6 (by decide) rfl (fun h6 => ?_) (fun h6 => ?_)
  · refine j_aload_n (pc' := 12) (z := 53) dX12_which_11 rfl rfl ?_
    refine j_iload_n (pc' := 13) (z := d) dX12_which_12 rfl rfl ?_
    refine j_callV (pc' := 16) (as := [aI d]) (rest := []) dX12_which_13 rfl s_Mod_159 (c_Mod_wrongPairs hT.1 hB hsh (by omega)) (by omega) hO rfl rfl rfl rfl (jdet (st' := [aI (pairsR sh E d)]) rfl ?_)
    refine j_istore_n (pc' := 17) (L' := [some (aR 53), some (aI d), some (aI x), some (aI (pairsR sh E d))]) dX12_which_16 rfl (by decide) rfl ?_
    have hrb := pairsR_bd (sh := sh) (E := E) (d := d)
    refine j_iload_n (pc' := 18) (z := (pairsR sh E d)) dX12_which_17 rfl rfl ?_
    refine j_if_eq (tgt := 23) (pc' := 21) dX12_which_18 (by decide) rfl (by omega) (fun h18 => ?_) (fun h18 => ?_)
    · obtain ⟨⟨hd7, hct⟩, hpr⟩ := pairsR_0 h18
      obtain ⟨q1, q2, q3, q4, q5, q6⟩ := id (hsh d (by omega))
      have hsb := susS_bd (F := E d) (sz := sh 4 d) hB
      refine j_iload_n (pc' := 24) (z := x) dX12_which_23 rfl rfl ?_
      refine j_if_ne (tgt := 35) (pc' := 27) dX12_which_24 (by decide) rfl (by omega) (fun h24 => ?_) (fun h24 => ?_)
      · refine j_aload_n (pc' := 36) (z := 53) dX12_which_35 rfl rfl ?_
        refine j_iload_n (pc' := 37) (z := d) dX12_which_36 rfl rfl ?_
        refine j_callV (pc' := 40) (as := [aI d]) (rest := []) dX12_which_37 rfl s_Mod_162 (c_Mod_whichOf hT.1 hB hsh (by omega) (by omega) hpr) (by omega) hO rfl rfl rfl rfl (jdet (st' := [aI (susS D n (E d) (sh 4 d))]) rfl ?_)
        refine j_callS (pc' := 43) (as := [aI (susS D n (E d) (sh 4 d))]) (rest := []) dX12_which_40 rfl s_Mod_153 (c_Mod_bits (by omega)) rfl rfl rfl (jdet (st' := [aI (pop (susS D n (E d) (sh 4 d)))]) rfl ?_)
        exact j_iret dX12_which_43 rfl (jM_of (by unfold whichA; (repeat' split) <;> first | rfl | omega) hT)
      · refine j_aload_n (pc' := 28) (z := 53) dX12_which_27 rfl rfl ?_
        refine j_iload_n (pc' := 29) (z := d) dX12_which_28 rfl rfl ?_
        refine j_callV (pc' := 32) (as := [aI d]) (rest := []) dX12_which_29 rfl s_Mod_162 (c_Mod_whichOf hT.1 hB hsh (by omega) (by omega) hpr) (by omega) hO rfl rfl rfl rfl (jdet (st' := [aI (susS D n (E d) (sh 4 d))]) rfl ?_)
        refine j_goto (pc' := 43) dX12_which_32 (by decide) ?_
        exact j_iret dX12_which_43 rfl (jM_of (by unfold whichA; (repeat' split) <;> first | rfl | omega) hT)
    · refine j_iload_n (pc' := 22) (z := (pairsR sh E d)) dX12_which_21 rfl rfl ?_
      exact j_iret dX12_which_22 rfl (jM_of (by unfold whichA; (repeat' split) <;> first | rfl | omega) hT)
  · refine j_iconst (pc' := 10) dX12_which_9 rfl ?_
    exact j_iret dX12_which_10 rfl (jM_of (by unfold whichA; (repeat' split) <;> first | rfl | omega) hT)
set_option maxRecDepth 100000 in
set_option maxHeartbeats 4000000 in
theorem c_Mod_two {l : Launch} {w : AW} {D Di : Int → Int → Int} {n mi hi ni mj : Int} {sh E : Int → Int → Int} {d x : Int} (hM : Mod w D n mi hi Di ni mj sh E) (hB : CarOK D n mi) (hI : CarOK Di ni mj) (hhi : hi = 0 ∨ hi = 1) (hsh : ShOK sh E) (hwd : WdOK D) (hd : inI d) (hx : inI x) : Call l m_Mod_two false 68 68 [aR 53, aI d, aI x] w (jM w (twoA D n sh E d x) D n mi hi Di ni mj sh E) := by
  have hT := MS.rf hM
  have hM0 := hM
  obtain ⟨⟨pc, ra, re, fm, se, th, hO⟩, ⟨S, hS, hR⟩, ⟨Sm, hSm⟩, ⟨Si, hSi, hRi⟩, ⟨Sw, hSw⟩, ⟨nu, hnu⟩, ⟨ha, hha⟩, ⟨fg, hfg⟩, ke, kk, kf, so, si, el, ⟨hke, hkk, hkf, hso, hsi, hel⟩, hRel⟩ := hM
  obtain ⟨hn, hD, hs0, hs1, hs2, hs3⟩ := id hB
  refine Call.of (L := [some (aR 53), some (aI d), some (aI x), none, none, none, none, none, none, none]) rfl (Nat.le_of_ble_eq_true rfl) rfl (fun G ad => ?_)
  refine j_iload_n (pc' := 1) (z := x) dX12_two_0 rfl rfl ?_
  refine j_iconst (pc' := 2) dX12_two_1 rfl ?_
  refine j_iconst (pc' := 3) dX12_two_2 rfl ?_
  refine j_callS (pc' := 6) (as := [aI x, aI 0, aI 1]) (rest := []) dX12_two_3 rfl s_Mod_49 (c_Mod_isIn (by omega) (by omega) (by omega)) rfl rfl rfl (jdet (st' := [aB (0 ≤ x ∧ x ≤ 1)]) rfl ?_)
  refine j_ifb_ne (tgt := 11) (pc' := 9) dX12_two_6 (by decide) rfl (fun h6 => ?_) (fun h6 => ?_)
  · refine j_aload_n (pc' := 12) (z := 53) dX12_two_11 rfl rfl ?_
    refine j_iload_n (pc' := 13) (z := d) dX12_two_12 rfl rfl ?_
    refine j_callV (pc' := 16) (as := [aI d]) (rest := []) dX12_two_13 rfl s_Mod_159 (c_Mod_wrongPairs hT.1 hB hsh (by omega)) (by omega) hO rfl rfl rfl rfl (jdet (st' := [aI (pairsR sh E d)]) rfl ?_)
    refine j_istore_n (pc' := 17) (L' := [some (aR 53), some (aI d), some (aI x), some (aI (pairsR sh E d)), none, none, none, none, none, none]) dX12_two_16 rfl (by decide) rfl ?_
    have hrb := pairsR_bd (sh := sh) (E := E) (d := d)
    refine j_iload_n (pc' := 18) (z := (pairsR sh E d)) dX12_two_17 rfl rfl ?_
    refine j_if_eq (tgt := 23) (pc' := 21) dX12_two_18 (by decide) rfl (by omega) (fun h18 => ?_) (fun h18 => ?_)
    · obtain ⟨⟨hd7, hct⟩, hpr⟩ := pairsR_0 h18
      obtain ⟨q1, q2, q3, q4, q5, q6⟩ := id (hsh d (by omega))
      have hsb := susS_bd (F := E d) (sz := sh 4 d) hB
      refine j_aload_n (pc' := 24) (z := 53) dX12_two_23 rfl rfl ?_
      refine j_iload_n (pc' := 25) (z := d) dX12_two_24 rfl rfl ?_
      refine j_callV (pc' := 28) (as := [aI d]) (rest := []) dX12_two_25 rfl s_Mod_162 (c_Mod_whichOf hT.1 hB hsh (by omega) (by omega) hpr) (by omega) hO rfl rfl rfl rfl (jdet (st' := [aI (susS D n (E d) (sh 4 d))]) rfl ?_)
      refine j_istore (pc' := 30) (L' := [some (aR 53), some (aI d), some (aI x), some (aI (pairsR sh E d)), some (aI (susS D n (E d) (sh 4 d))), none, none, none, none, none]) dX12_two_28 rfl (by decide) rfl ?_
      refine j_iconst (pc' := 31) dX12_two_30 rfl ?_
      refine j_istore (pc' := 33) (L' := [some (aR 53), some (aI d), some (aI x), some (aI (pairsR sh E d)), some (aI (susS D n (E d) (sh 4 d))), some (aI 0), none, none, none, none]) dX12_two_31 rfl (by decide) rfl ?_
      refine j_bipush (pc' := 35) dX12_two_33 rfl (by decide) ?_
      refine j_istore (pc' := 37) (L' := [some (aR 53), some (aI d), some (aI x), some (aI (pairsR sh E d)), some (aI (susS D n (E d) (sh 4 d))), some (aI 0), some (aI (-4)), none, none, none]) dX12_two_35 rfl (by decide) rfl ?_
      refine j_iconst (pc' := 38) dX12_two_37 rfl ?_
      refine j_istore (pc' := 40) (L' := [some (aR 53), some (aI d), some (aI x), some (aI (pairsR sh E d)), some (aI (susS D n (E d) (sh 4 d))), some (aI 0), some (aI (-4)), some (aI 0), none, none]) dX12_two_38 rfl (by decide) rfl ?_
      have lp40 : ∀ (k9 : Nat) (v : Int) (f : Int) (a : Int), (0 ≤ a ∧ a ≤ n) → ((v, f) = twoF D n (E d) (sh 4 d) a) → ((0 ≤ v ∧ v ≤ 10 * a) ∧ -4 ≤ f ∧ f ≤ 100 ∧ (v = 0 ↔ f = -4)) → ((n - a).toNat) = k9 → J l m_Mod_two ad G [] false (jZ ad G false 68 m_Mod_two.2.2.2.2.cells m_Mod_two.2.2.2.2.slots (jM w (twoA D n sh E d x) D n mi hi Di ni mj sh E)) 68 0 0 40 [some (aR 53), some (aI d), some (aI x), some (aI (pairsR sh E d)), some (aI (susS D n (E d) (sh 4 d))), some (aI v), some (aI f), some (aI a), none, none] [] w := by
        intro k9
        induction k9 using Nat.strongRecOn with
        | _ k9 ih40 =>
          intro v f a hi9 hv hvb hk40
          refine j_iload (pc' := 42) (z := a) dX12_two_40 rfl rfl ?_
          refine j_aload_n (pc' := 43) (z := 53) dX12_two_42 rfl rfl ?_
          refine j_get (pc' := 46) (v := aR 54) dX12_two_43 rfl f_Mod_9 (by omega) hO rfl ?_
          refine j_iconst (pc' := 47) dX12_two_46 rfl ?_
          refine j_iald (pc' := 48) dX12_two_47 rfl (by omega) hS (by omega) (by decide) ?_
          refine j_top (b := n) hR.pn ?_
          refine j_icmp_ge (tgt := 135) (pc' := 51) dX12_two_48 (by decide) rfl (by omega) (by omega) (fun h48 => ?_) (fun h48 => ?_)
          · refine j_iload_n (pc' := 136) (z := x) dX12_two_135 rfl rfl ?_
            refine j_if_ne (tgt := 144) (pc' := 139) dX12_two_136 (by decide) rfl (by omega) (fun h136 => ?_) (fun h136 => ?_)
            · refine j_iload (pc' := 146) (z := f) dX12_two_144 rfl rfl ?_
              exact j_iret dX12_two_146 rfl (jM_of (by have hz : twoF D n (E d) (sh 4 d) n = (v, f) := (by rw [hv, show a = n by omega]); unfold twoA; rw [if_pos (by omega), if_pos h18, hz]; dsimp only; (repeat' split) <;> first | rfl | omega) hT)
            · refine j_iload (pc' := 141) (z := v) dX12_two_139 rfl rfl ?_
              refine j_goto (pc' := 146) dX12_two_141 (by decide) ?_
              exact j_iret dX12_two_146 rfl (jM_of (by have hz : twoF D n (E d) (sh 4 d) n = (v, f) := (by rw [hv, show a = n by omega]); unfold twoA; rw [if_pos (by omega), if_pos h18, hz]; dsimp only; (repeat' split) <;> first | rfl | omega) hT)
          · refine j_iload (pc' := 53) (z := a) dX12_two_51 rfl rfl ?_
            refine j_iconst (pc' := 54) dX12_two_53 rfl ?_
            refine j_iadd (pc' := 55) dX12_two_54 rfl ?_
            refine j_istore (pc' := 57) (L' := [some (aR 53), some (aI d), some (aI x), some (aI (pairsR sh E d)), some (aI (susS D n (E d) (sh 4 d))), some (aI v), some (aI f), some (aI a), some (aI (a + 1)), none]) dX12_two_55 rfl (by decide) rfl ?_
            have lp57 : ∀ (k9 : Nat) (v2 : Int) (f2 : Int) (b : Int), (a + 1 ≤ b ∧ b ≤ n ∨ b = a + 1) → ((v2, f2) = twoI D n (E d) (sh 4 d) a (b - (a + 1)) (v, f)) → ((v ≤ v2 ∧ v2 ≤ v + (b - (a + 1))) ∧ -4 ≤ f2 ∧ f2 ≤ 100 ∧ (v2 = 0 ↔ f2 = -4)) → ((n - b).toNat) = k9 → J l m_Mod_two ad G [] false (jZ ad G false 68 m_Mod_two.2.2.2.2.cells m_Mod_two.2.2.2.2.slots (jM w (twoA D n sh E d x) D n mi hi Di ni mj sh E)) 68 0 0 57 [some (aR 53), some (aI d), some (aI x), some (aI (pairsR sh E d)), some (aI (susS D n (E d) (sh 4 d))), some (aI v2), some (aI f2), some (aI a), some (aI b), none] [] w := by
              intro k9
              induction k9 using Nat.strongRecOn with
              | _ k9 ih57 =>
                intro v2 f2 b hb9 hv2 hvb2 hk57
                refine j_iload (pc' := 59) (z := b) dX12_two_57 rfl rfl ?_
                refine j_aload_n (pc' := 60) (z := 53) dX12_two_59 rfl rfl ?_
                refine j_get (pc' := 63) (v := aR 54) dX12_two_60 rfl f_Mod_9 (by omega) hO rfl ?_
                refine j_iconst (pc' := 64) dX12_two_63 rfl ?_
                refine j_iald (pc' := 65) dX12_two_64 rfl (by omega) hS (by omega) (by decide) ?_
                refine j_top (b := n) hR.pn ?_
                refine j_icmp_ge (tgt := 129) (pc' := 68) dX12_two_65 (by decide) rfl (by omega) (by omega) (fun h65 => ?_) (fun h65 => ?_)
                · refine j_iinc (pc' := 132) (z := a) (L' := [some (aR 53), some (aI d), some (aI x), some (aI (pairsR sh E d)), some (aI (susS D n (E d) (sh 4 d))), some (aI v2), some (aI f2), some (aI (a + 1)), some (aI b), none]) dX12_two_129 rfl (by decide) rfl rfl rfl ?_
                  refine j_goto (pc' := 40) dX12_two_132 (by decide) ?_
                  refine j_forget 8 (L' := [some (aR 53), some (aI d), some (aI x), some (aI (pairsR sh E d)), some (aI (susS D n (E d) (sh 4 d))), some (aI v2), some (aI f2), some (aI (a + 1)), none, none]) rfl ?_
                  exact ih40 _ (by omega) v2 f2 (a + 1) (by omega) (by unfold twoF at hv ⊢; rw [foldI_s (by omega), ← hv]; rw [hv2, show b - (a + 1) = n - (a + 1) by omega]) (by omega) rfl
                · have hob := or2_bd (p := a) (q := b) (by omega) (by omega)
                  have hab := andI_bd (a := orI (2 ^ (Int.toNat a)) (2 ^ (Int.toNat b))) (b := susS D n (E d) (sh 4 d)) (by omega) (by omega)
                  have hpa := pow7 (n := a) (by omega)
                  have hpb := pow7 (n := b) (by omega)
                  refine j_iconst (pc' := 69) dX12_two_68 rfl ?_
                  refine j_iload (pc' := 71) (z := a) dX12_two_69 rfl rfl ?_
                  refine j_ishl1 (pc' := 72) dX12_two_71 rfl (by omega) ?_
                  refine j_iconst (pc' := 73) dX12_two_72 rfl ?_
                  refine j_iload (pc' := 75) (z := b) dX12_two_73 rfl rfl ?_
                  refine j_ishl1 (pc' := 76) dX12_two_75 rfl (by omega) ?_
                  refine j_ior (pc' := 77) (a := 2 ^ (Int.toNat a)) (b := 2 ^ (Int.toNat b)) dX12_two_76 rfl (by omega) (by omega) ?_
                  refine j_istore (pc' := 79) (L' := [some (aR 53), some (aI d), some (aI x), some (aI (pairsR sh E d)), some (aI (susS D n (E d) (sh 4 d))), some (aI v2), some (aI f2), some (aI a), some (aI b), some (aI (orI (2 ^ (Int.toNat a)) (2 ^ (Int.toNat b))))]) dX12_two_77 rfl (by decide) rfl ?_
                  refine j_iload (pc' := 81) (z := (susS D n (E d) (sh 4 d))) dX12_two_79 rfl rfl ?_
                  refine j_iload (pc' := 83) (z := (orI (2 ^ (Int.toNat a)) (2 ^ (Int.toNat b)))) dX12_two_81 rfl rfl ?_
                  refine j_iand (pc' := 84) (a := susS D n (E d) (sh 4 d)) (b := orI (2 ^ (Int.toNat a)) (2 ^ (Int.toNat b))) dX12_two_83 rfl (by omega) (by omega) ?_
                  refine j_top (b := andI (orI (2 ^ (Int.toNat a)) (2 ^ (Int.toNat b))) (susS D n (E d) (sh 4 d))) andI_comm ?_
                  refine j_if_ne (tgt := 123) (pc' := 87) dX12_two_84 (by decide) rfl (by omega) (fun h84 => ?_) (fun h84 => ?_)
                  · refine j_iinc (pc' := 126) (z := b) (L' := [some (aR 53), some (aI d), some (aI x), some (aI (pairsR sh E d)), some (aI (susS D n (E d) (sh 4 d))), some (aI v2), some (aI f2), some (aI a), some (aI (b + 1)), some (aI (orI (2 ^ (Int.toNat a)) (2 ^ (Int.toNat b))))]) dX12_two_123 rfl (by decide) rfl rfl rfl ?_
                    refine j_goto (pc' := 57) dX12_two_126 (by decide) ?_
                    refine j_forget 9 (L' := [some (aR 53), some (aI d), some (aI x), some (aI (pairsR sh E d)), some (aI (susS D n (E d) (sh 4 d))), some (aI v2), some (aI f2), some (aI a), some (aI (b + 1)), none]) rfl ?_
                    exact ih57 _ (by omega) v2 f2 (b + 1) (by omega) (by unfold twoI at hv2 ⊢; rw [show b + 1 - (a + 1) = (b - (a + 1)) + 1 by omega, foldI_s (by omega), ← hv2]; unfold twoH; rw [show a + 1 + (b - (a + 1)) = b by omega]; first | rw [if_neg (fun q9 => absurd q9.2 h94)] | rw [if_neg (fun q9 => absurd q9.1 h84)]) (by omega) rfl
                  · refine j_aload_n (pc' := 88) (z := 53) dX12_two_87 rfl rfl ?_
                    refine j_iload_n (pc' := 89) (z := d) dX12_two_88 rfl rfl ?_
                    refine j_iload (pc' := 91) (z := (orI (2 ^ (Int.toNat a)) (2 ^ (Int.toNat b)))) dX12_two_89 rfl rfl ?_
                    refine j_callV (pc' := 94) (as := [aI d, aI (orI (2 ^ (Int.toNat a)) (2 ^ (Int.toNat b)))]) (rest := []) dX12_two_91 rfl s_Mod_156 (c_Mod_isTold hT.1 hB hsh (by omega) (by omega) hpr (by omega)) (by omega) hO rfl rfl rfl rfl (jdet (st' := [aB (toldB D n (E d) (sh 4 d) (orI (2 ^ (Int.toNat a)) (2 ^ (Int.toNat b))) = true)]) rfl ?_)
                    refine j_ifb_ne (tgt := 100) (pc' := 97) dX12_two_94 (by decide) rfl (fun h94 => ?_) (fun h94 => ?_)
                    · refine j_iload (pc' := 102) (z := v2) dX12_two_100 rfl rfl ?_
                      refine j_if_ne (tgt := 116) (pc' := 105) dX12_two_102 (by decide) rfl (by omega) (fun h102 => ?_) (fun h102 => ?_)
                      · refine j_iload (pc' := 118) (z := f2) dX12_two_116 rfl rfl ?_
                        refine j_istore (pc' := 120) (L' := [some (aR 53), some (aI d), some (aI x), some (aI (pairsR sh E d)), some (aI (susS D n (E d) (sh 4 d))), some (aI v2), some (aI f2), some (aI a), some (aI b), some (aI (orI (2 ^ (Int.toNat a)) (2 ^ (Int.toNat b))))]) dX12_two_118 rfl (by decide) rfl ?_
                        refine j_iinc (pc' := 123) (z := v2) (L' := [some (aR 53), some (aI d), some (aI x), some (aI (pairsR sh E d)), some (aI (susS D n (E d) (sh 4 d))), some (aI (v2 + 1)), some (aI f2), some (aI a), some (aI b), some (aI (orI (2 ^ (Int.toNat a)) (2 ^ (Int.toNat b))))]) dX12_two_120 rfl (by decide) rfl rfl rfl ?_
                        refine j_iinc (pc' := 126) (z := b) (L' := [some (aR 53), some (aI d), some (aI x), some (aI (pairsR sh E d)), some (aI (susS D n (E d) (sh 4 d))), some (aI (v2 + 1)), some (aI f2), some (aI a), some (aI (b + 1)), some (aI (orI (2 ^ (Int.toNat a)) (2 ^ (Int.toNat b))))]) dX12_two_123 rfl (by decide) rfl rfl rfl ?_
                        refine j_goto (pc' := 57) dX12_two_126 (by decide) ?_
                        refine j_forget 9 (L' := [some (aR 53), some (aI d), some (aI x), some (aI (pairsR sh E d)), some (aI (susS D n (E d) (sh 4 d))), some (aI (v2 + 1)), some (aI f2), some (aI a), some (aI (b + 1)), none]) rfl ?_
                        exact ih57 _ (by omega) (v2 + 1) f2 (b + 1) (by omega) (by unfold twoI at hv2 ⊢; rw [show b + 1 - (a + 1) = (b - (a + 1)) + 1 by omega, foldI_s (by omega), ← hv2]; unfold twoH; rw [show a + 1 + (b - (a + 1)) = b by omega]; rw [if_pos ⟨by omega, h94⟩]; dsimp only; first | rw [if_pos (by omega)] | rw [if_neg (by omega)]) (by omega) rfl
                      · refine j_bipush (pc' := 107) dX12_two_105 rfl (by decide) ?_
                        refine j_iload (pc' := 109) (z := a) dX12_two_107 rfl rfl ?_
                        refine j_imul (pc' := 110) dX12_two_109 rfl ?_
                        refine j_iload (pc' := 112) (z := b) dX12_two_110 rfl rfl ?_
                        refine j_iadd (pc' := 113) dX12_two_112 rfl ?_
                        refine j_goto (pc' := 118) dX12_two_113 (by decide) ?_
                        refine j_istore (pc' := 120) (L' := [some (aR 53), some (aI d), some (aI x), some (aI (pairsR sh E d)), some (aI (susS D n (E d) (sh 4 d))), some (aI v2), some (aI ((10 * a) + b)), some (aI a), some (aI b), some (aI (orI (2 ^ (Int.toNat a)) (2 ^ (Int.toNat b))))]) dX12_two_118 rfl (by decide) rfl ?_
                        refine j_iinc (pc' := 123) (z := v2) (L' := [some (aR 53), some (aI d), some (aI x), some (aI (pairsR sh E d)), some (aI (susS D n (E d) (sh 4 d))), some (aI (v2 + 1)), some (aI ((10 * a) + b)), some (aI a), some (aI b), some (aI (orI (2 ^ (Int.toNat a)) (2 ^ (Int.toNat b))))]) dX12_two_120 rfl (by decide) rfl rfl rfl ?_
                        refine j_iinc (pc' := 126) (z := b) (L' := [some (aR 53), some (aI d), some (aI x), some (aI (pairsR sh E d)), some (aI (susS D n (E d) (sh 4 d))), some (aI (v2 + 1)), some (aI ((10 * a) + b)), some (aI a), some (aI (b + 1)), some (aI (orI (2 ^ (Int.toNat a)) (2 ^ (Int.toNat b))))]) dX12_two_123 rfl (by decide) rfl rfl rfl ?_
                        refine j_goto (pc' := 57) dX12_two_126 (by decide) ?_
                        refine j_forget 9 (L' := [some (aR 53), some (aI d), some (aI x), some (aI (pairsR sh E d)), some (aI (susS D n (E d) (sh 4 d))), some (aI (v2 + 1)), some (aI ((10 * a) + b)), some (aI a), some (aI (b + 1)), none]) rfl ?_
                        exact ih57 _ (by omega) (v2 + 1) ((10 * a) + b) (b + 1) (by omega) (by unfold twoI at hv2 ⊢; rw [show b + 1 - (a + 1) = (b - (a + 1)) + 1 by omega, foldI_s (by omega), ← hv2]; unfold twoH; rw [show a + 1 + (b - (a + 1)) = b by omega]; rw [if_pos ⟨by omega, h94⟩]; dsimp only; first | rw [if_pos (by omega)] | rw [if_neg (by omega)]) (by omega) rfl
                    · refine j_goto (pc' := 123) dX12_two_97 (by decide) ?_
                      refine j_iinc (pc' := 126) (z := b) (L' := [some (aR 53), some (aI d), some (aI x), some (aI (pairsR sh E d)), some (aI (susS D n (E d) (sh 4 d))), some (aI v2), some (aI f2), some (aI a), some (aI (b + 1)), some (aI (orI (2 ^ (Int.toNat a)) (2 ^ (Int.toNat b))))]) dX12_two_123 rfl (by decide) rfl rfl rfl ?_
                      refine j_goto (pc' := 57) dX12_two_126 (by decide) ?_
                      refine j_forget 9 (L' := [some (aR 53), some (aI d), some (aI x), some (aI (pairsR sh E d)), some (aI (susS D n (E d) (sh 4 d))), some (aI v2), some (aI f2), some (aI a), some (aI (b + 1)), none]) rfl ?_
                      exact ih57 _ (by omega) v2 f2 (b + 1) (by omega) (by unfold twoI at hv2 ⊢; rw [show b + 1 - (a + 1) = (b - (a + 1)) + 1 by omega, foldI_s (by omega), ← hv2]; unfold twoH; rw [show a + 1 + (b - (a + 1)) = b by omega]; first | rw [if_neg (fun q9 => absurd q9.2 h94)] | rw [if_neg (fun q9 => absurd q9.1 h84)]) (by omega) rfl
            exact lp57 _ v f (a + 1) (by omega) (by rw [Int.sub_self]; rfl) (by omega) rfl
      exact lp40 _ 0 (-4) 0 (by omega) (by rfl) (by omega) rfl
    · refine j_iload_n (pc' := 22) (z := (pairsR sh E d)) dX12_two_21 rfl rfl ?_
      exact j_iret dX12_two_22 rfl (jM_of (by unfold twoA; (repeat' split) <;> first | rfl | omega) hT)
  · refine j_iconst (pc' := 10) dX12_two_9 rfl ?_
    exact j_iret dX12_two_10 rfl (jM_of (by unfold twoA; (repeat' split) <;> first | rfl | omega) hT)
set_option maxRecDepth 100000 in
set_option maxHeartbeats 4000000 in
theorem c_Mod_tryNext {l : Launch} {w : AW} {D Di : Int → Int → Int} {n mi hi ni mj : Int} {sh E : Int → Int → Int} {d : Int} (hM : Mod w D n mi hi Di ni mj sh E) (hB : CarOK D n mi) (hI : CarOK Di ni mj) (hhi : hi = 0 ∨ hi = 1) (hsh : ShOK sh E) (hwd : WdOK D) (hd : inI d) : Call l m_Mod_tryNext false 68 68 [aR 53, aI d] w (jM w (tryA D n sh E d) D n mi hi Di ni mj sh E) := by
  have hT := MS.rf hM
  have hM0 := hM
  obtain ⟨⟨pc, ra, re, fm, se, th, hO⟩, ⟨S, hS, hR⟩, ⟨Sm, hSm⟩, ⟨Si, hSi, hRi⟩, ⟨Sw, hSw⟩, ⟨nu, hnu⟩, ⟨ha, hha⟩, ⟨fg, hfg⟩, ke, kk, kf, so, si, el, ⟨hke, hkk, hkf, hso, hsi, hel⟩, hRel⟩ := hM
  obtain ⟨hn, hD, hs0, hs1, hs2, hs3⟩ := id hB
  refine Call.of (L := [some (aR 53), some (aI d), none, none, none, none, none, none, none, none]) rfl (Nat.le_of_ble_eq_true rfl) rfl (fun G ad => ?_)
  refine j_aload_n (pc' := 1) (z := 53) dX12_tryNext_0 rfl rfl ?_
  refine j_iload_n (pc' := 2) (z := d) dX12_tryNext_1 rfl rfl ?_
  refine j_callV (pc' := 5) (as := [aI d]) (rest := []) dX12_tryNext_2 rfl s_Mod_159 (c_Mod_wrongPairs hT.1 hB hsh (by omega)) (by omega) hO rfl rfl rfl rfl (jdet (st' := [aI (pairsR sh E d)]) rfl ?_)
  refine j_istore_n (pc' := 6) (L' := [some (aR 53), some (aI d), some (aI (pairsR sh E d)), none, none, none, none, none, none, none]) dX12_tryNext_5 rfl (by decide) rfl ?_
  have hrb := pairsR_bd (sh := sh) (E := E) (d := d)
  refine j_iload_n (pc' := 7) (z := (pairsR sh E d)) dX12_tryNext_6 rfl rfl ?_
  refine j_if_eq (tgt := 12) (pc' := 10) dX12_tryNext_7 (by decide) rfl (by omega) (fun h7 => ?_) (fun h7 => ?_)
  · obtain ⟨⟨hd7, hct⟩, hpr⟩ := pairsR_0 h7
    obtain ⟨q1, q2, q3, q4, q5, q6⟩ := id (hsh d (by omega))
    have hsb := susS_bd (F := E d) (sz := sh 4 d) hB
    refine j_aload_n (pc' := 13) (z := 53) dX12_tryNext_12 rfl rfl ?_
    refine j_iload_n (pc' := 14) (z := d) dX12_tryNext_13 rfl rfl ?_
    refine j_callV (pc' := 17) (as := [aI d]) (rest := []) dX12_tryNext_14 rfl s_Mod_162 (c_Mod_whichOf hT.1 hB hsh (by omega) (by omega) hpr) (by omega) hO rfl rfl rfl rfl (jdet (st' := [aI (susS D n (E d) (sh 4 d))]) rfl ?_)
    refine j_istore_n (pc' := 18) (L' := [some (aR 53), some (aI d), some (aI (pairsR sh E d)), some (aI (susS D n (E d) (sh 4 d))), none, none, none, none, none, none]) dX12_tryNext_17 rfl (by decide) rfl ?_
    refine j_iload_n (pc' := 19) (z := (susS D n (E d) (sh 4 d))) dX12_tryNext_18 rfl rfl ?_
    refine j_callS (pc' := 22) (as := [aI (susS D n (E d) (sh 4 d))]) (rest := []) dX12_tryNext_19 rfl s_Mod_153 (c_Mod_bits (by omega)) rfl rfl rfl (jdet (st' := [aI (pop (susS D n (E d) (sh 4 d)))]) rfl ?_)
    have hpp := pop_bd' (x := (susS D n (E d) (sh 4 d))) (by omega)
    refine j_iconst (pc' := 23) dX12_tryNext_22 rfl ?_
    refine j_icmp_ge (tgt := 29) (pc' := 26) dX12_tryNext_23 (by decide) rfl (by omega) (by omega) (fun h23 => ?_) (fun h23 => ?_)
    · refine j_iconst (pc' := 30) dX12_tryNext_29 rfl ?_
      refine j_istore (pc' := 32) (L' := [some (aR 53), some (aI d), some (aI (pairsR sh E d)), some (aI (susS D n (E d) (sh 4 d))), some (aI 0), none, none, none, none, none]) dX12_tryNext_30 rfl (by decide) rfl ?_
      refine j_iconst (pc' := 33) dX12_tryNext_32 rfl ?_
      refine j_istore (pc' := 35) (L' := [some (aR 53), some (aI d), some (aI (pairsR sh E d)), some (aI (susS D n (E d) (sh 4 d))), some (aI 0), some (aI (-1)), none, none, none, none]) dX12_tryNext_33 rfl (by decide) rfl ?_
      refine j_iconst (pc' := 36) dX12_tryNext_35 rfl ?_
      refine j_istore (pc' := 38) (L' := [some (aR 53), some (aI d), some (aI (pairsR sh E d)), some (aI (susS D n (E d) (sh 4 d))), some (aI 0), some (aI (-1)), some (aI 0), none, none, none]) dX12_tryNext_36 rfl (by decide) rfl ?_
      have lp38 : ∀ (k9 : Nat) (b : Int) (v : Int) (i : Int), (0 ≤ i ∧ i ≤ 100) → ((b, v) = tnF D n (susS D n (E d) (sh 4 d)) i) → ((0 ≤ b ∧ b ≤ 100) ∧ -1000 ≤ v ∧ v ≤ 1000) → ((100 - i).toNat) = k9 → J l m_Mod_tryNext ad G [] false (jZ ad G false 68 m_Mod_tryNext.2.2.2.2.cells m_Mod_tryNext.2.2.2.2.slots (jM w (tryA D n sh E d) D n mi hi Di ni mj sh E)) 68 0 0 38 [some (aR 53), some (aI d), some (aI (pairsR sh E d)), some (aI (susS D n (E d) (sh 4 d))), some (aI b), some (aI v), some (aI i), none, none, none] [] w := by
        intro k9
        induction k9 using Nat.strongRecOn with
        | _ k9 ih38 =>
          intro b v i hi9 hv hvb hk38
          refine j_iload (pc' := 40) (z := i) dX12_tryNext_38 rfl rfl ?_
          refine j_bipush (pc' := 42) dX12_tryNext_40 rfl (by decide) ?_
          refine j_icmp_ge (tgt := 172) (pc' := 45) dX12_tryNext_42 (by decide) rfl (by omega) (by omega) (fun h42 => ?_) (fun h42 => ?_)
          · refine j_iload (pc' := 174) (z := b) dX12_tryNext_172 rfl rfl ?_
            exact j_iret dX12_tryNext_174 rfl (jM_of (by unfold tryA; rw [if_pos h7, if_neg (by omega), ← show i = 100 by omega, ← hv]) hT)
          · refine j_iconst (pc' := 46) dX12_tryNext_45 rfl ?_
            refine j_istore (pc' := 48) (L' := [some (aR 53), some (aI d), some (aI (pairsR sh E d)), some (aI (susS D n (E d) (sh 4 d))), some (aI b), some (aI v), some (aI i), some (aI 0), none, none]) dX12_tryNext_46 rfl (by decide) rfl ?_
            refine j_iconst (pc' := 49) dX12_tryNext_48 rfl ?_
            refine j_istore (pc' := 51) (L' := [some (aR 53), some (aI d), some (aI (pairsR sh E d)), some (aI (susS D n (E d) (sh 4 d))), some (aI b), some (aI v), some (aI i), some (aI 0), some (aI 0), none]) dX12_tryNext_49 rfl (by decide) rfl ?_
            refine j_iconst (pc' := 52) dX12_tryNext_51 rfl ?_
            refine j_istore (pc' := 54) (L' := [some (aR 53), some (aI d), some (aI (pairsR sh E d)), some (aI (susS D n (E d) (sh 4 d))), some (aI b), some (aI v), some (aI i), some (aI 0), some (aI 0), some (aI 0)]) dX12_tryNext_52 rfl (by decide) rfl ?_
            have lp54 : ∀ (k9 : Nat) (y : Int) (z : Int) (p : Int), (0 ≤ p ∧ p ≤ n) → (y = tnA D (susS D n (E d) (sh 4 d)) i p) → (z = tnB D (susS D n (E d) (sh 4 d)) i p) → ((n - p).toNat) = k9 → J l m_Mod_tryNext ad G [] false (jZ ad G false 68 m_Mod_tryNext.2.2.2.2.cells m_Mod_tryNext.2.2.2.2.slots (jM w (tryA D n sh E d) D n mi hi Di ni mj sh E)) 68 0 0 54 [some (aR 53), some (aI d), some (aI (pairsR sh E d)), some (aI (susS D n (E d) (sh 4 d))), some (aI b), some (aI v), some (aI i), some (aI y), some (aI z), some (aI p)] [] w := by
              intro k9
              induction k9 using Nat.strongRecOn with
              | _ k9 ih54 =>
                intro y z p hp9 hy hz hk54
                refine j_iload (pc' := 56) (z := p) dX12_tryNext_54 rfl rfl ?_
                refine j_aload_n (pc' := 57) (z := 53) dX12_tryNext_56 rfl rfl ?_
                refine j_get (pc' := 60) (v := aR 54) dX12_tryNext_57 rfl f_Mod_9 (by omega) hO rfl ?_
                refine j_iconst (pc' := 61) dX12_tryNext_60 rfl ?_
                refine j_iald (pc' := 62) dX12_tryNext_61 rfl (by omega) hS (by omega) (by decide) ?_
                refine j_top (b := n) hR.pn ?_
                refine j_icmp_ge (tgt := 132) (pc' := 65) dX12_tryNext_62 (by decide) rfl (by omega) (by omega) (fun h62 => ?_) (fun h62 => ?_)
                · have hy1 : y = tnA D (susS D n (E d) (sh 4 d)) i n := by rw [hy, show p = n by omega]
                  have hz1 : z = tnB D (susS D n (E d) (sh 4 d)) i n := by rw [hz, show p = n by omega]
                  have htw := tn_min (D := D) (n := n) (set := (susS D n (E d) (sh 4 d))) (pace := i) (by omega) (by omega)
                  have hab := tnA_bd (set := (susS D n (E d) (sh 4 d))) (pace := i) hB (k := n) (by omega)
                  have hbb := tnB_bd (set := (susS D n (E d) (sh 4 d))) (pace := i) hB (k := n) (by omega)
                  refine j_iload (pc' := 134) (z := y) dX12_tryNext_132 rfl rfl ?_
                  refine j_iload (pc' := 136) (z := z) dX12_tryNext_134 rfl rfl ?_
                  refine j_icmp_ge (tgt := 144) (pc' := 139) dX12_tryNext_136 (by decide) rfl (by omega) (by omega) (fun h136 => ?_) (fun h136 => ?_)
                  · refine j_iload (pc' := 146) (z := z) dX12_tryNext_144 rfl rfl ?_
                    refine j_istore (pc' := 148) (L' := [some (aR 53), some (aI d), some (aI (pairsR sh E d)), some (aI (susS D n (E d) (sh 4 d))), some (aI b), some (aI v), some (aI i), some (aI y), some (aI z), some (aI z)]) dX12_tryNext_146 rfl (by decide) rfl ?_
                    refine j_iload (pc' := 150) (z := z) dX12_tryNext_148 rfl rfl ?_
                    refine j_iload (pc' := 152) (z := v) dX12_tryNext_150 rfl rfl ?_
                    refine j_icmp_gt (tgt := 158) (pc' := 155) dX12_tryNext_152 (by decide) rfl (by omega) (by omega) (fun h152 => ?_) (fun h152 => ?_)
                    · refine j_iload (pc' := 160) (z := i) dX12_tryNext_158 rfl rfl ?_
                      refine j_istore (pc' := 162) (L' := [some (aR 53), some (aI d), some (aI (pairsR sh E d)), some (aI (susS D n (E d) (sh 4 d))), some (aI i), some (aI v), some (aI i), some (aI y), some (aI z), some (aI z)]) dX12_tryNext_160 rfl (by decide) rfl ?_
                      refine j_iload (pc' := 164) (z := z) dX12_tryNext_162 rfl rfl ?_
                      refine j_istore (pc' := 166) (L' := [some (aR 53), some (aI d), some (aI (pairsR sh E d)), some (aI (susS D n (E d) (sh 4 d))), some (aI i), some (aI z), some (aI i), some (aI y), some (aI z), some (aI z)]) dX12_tryNext_164 rfl (by decide) rfl ?_
                      refine j_iinc (pc' := 169) (z := i) (L' := [some (aR 53), some (aI d), some (aI (pairsR sh E d)), some (aI (susS D n (E d) (sh 4 d))), some (aI i), some (aI z), some (aI (i + 1)), some (aI y), some (aI z), some (aI z)]) dX12_tryNext_166 rfl (by decide) rfl rfl rfl ?_
                      refine j_goto (pc' := 38) dX12_tryNext_169 (by decide) ?_
                      refine j_forget 7 (L' := [some (aR 53), some (aI d), some (aI (pairsR sh E d)), some (aI (susS D n (E d) (sh 4 d))), some (aI i), some (aI z), some (aI (i + 1)), none, some (aI z), some (aI z)]) rfl ?_
                      refine j_forget 8 (L' := [some (aR 53), some (aI d), some (aI (pairsR sh E d)), some (aI (susS D n (E d) (sh 4 d))), some (aI i), some (aI z), some (aI (i + 1)), none, none, some (aI z)]) rfl ?_
                      refine j_forget 9 (L' := [some (aR 53), some (aI d), some (aI (pairsR sh E d)), some (aI (susS D n (E d) (sh 4 d))), some (aI i), some (aI z), some (aI (i + 1)), none, none, none]) rfl ?_
                      exact ih38 _ (by omega) i z (i + 1) (by omega) (by unfold tnF at hv ⊢; rw [foldI_s (by omega), ← hv]; unfold tnH; first | (rw [if_pos (show v < tnW D n (susS D n (E d) (sh 4 d)) i by omega), show tnW D n (susS D n (E d) (sh 4 d)) i = y by omega]) | (rw [if_pos (show v < tnW D n (susS D n (E d) (sh 4 d)) i by omega), show tnW D n (susS D n (E d) (sh 4 d)) i = z by omega]) | rw [if_neg (show ¬ v < tnW D n (susS D n (E d) (sh 4 d)) i by omega)]) (by omega) rfl
                    · refine j_goto (pc' := 166) dX12_tryNext_155 (by decide) ?_
                      refine j_iinc (pc' := 169) (z := i) (L' := [some (aR 53), some (aI d), some (aI (pairsR sh E d)), some (aI (susS D n (E d) (sh 4 d))), some (aI b), some (aI v), some (aI (i + 1)), some (aI y), some (aI z), some (aI z)]) dX12_tryNext_166 rfl (by decide) rfl rfl rfl ?_
                      refine j_goto (pc' := 38) dX12_tryNext_169 (by decide) ?_
                      refine j_forget 7 (L' := [some (aR 53), some (aI d), some (aI (pairsR sh E d)), some (aI (susS D n (E d) (sh 4 d))), some (aI b), some (aI v), some (aI (i + 1)), none, some (aI z), some (aI z)]) rfl ?_
                      refine j_forget 8 (L' := [some (aR 53), some (aI d), some (aI (pairsR sh E d)), some (aI (susS D n (E d) (sh 4 d))), some (aI b), some (aI v), some (aI (i + 1)), none, none, some (aI z)]) rfl ?_
                      refine j_forget 9 (L' := [some (aR 53), some (aI d), some (aI (pairsR sh E d)), some (aI (susS D n (E d) (sh 4 d))), some (aI b), some (aI v), some (aI (i + 1)), none, none, none]) rfl ?_
                      exact ih38 _ (by omega) b v (i + 1) (by omega) (by unfold tnF at hv ⊢; rw [foldI_s (by omega), ← hv]; unfold tnH; first | (rw [if_pos (show v < tnW D n (susS D n (E d) (sh 4 d)) i by omega), show tnW D n (susS D n (E d) (sh 4 d)) i = y by omega]) | (rw [if_pos (show v < tnW D n (susS D n (E d) (sh 4 d)) i by omega), show tnW D n (susS D n (E d) (sh 4 d)) i = z by omega]) | rw [if_neg (show ¬ v < tnW D n (susS D n (E d) (sh 4 d)) i by omega)]) (by omega) rfl
                  · refine j_iload (pc' := 141) (z := y) dX12_tryNext_139 rfl rfl ?_
                    refine j_goto (pc' := 146) dX12_tryNext_141 (by decide) ?_
                    refine j_istore (pc' := 148) (L' := [some (aR 53), some (aI d), some (aI (pairsR sh E d)), some (aI (susS D n (E d) (sh 4 d))), some (aI b), some (aI v), some (aI i), some (aI y), some (aI z), some (aI y)]) dX12_tryNext_146 rfl (by decide) rfl ?_
                    refine j_iload (pc' := 150) (z := y) dX12_tryNext_148 rfl rfl ?_
                    refine j_iload (pc' := 152) (z := v) dX12_tryNext_150 rfl rfl ?_
                    refine j_icmp_gt (tgt := 158) (pc' := 155) dX12_tryNext_152 (by decide) rfl (by omega) (by omega) (fun h152 => ?_) (fun h152 => ?_)
                    · refine j_iload (pc' := 160) (z := i) dX12_tryNext_158 rfl rfl ?_
                      refine j_istore (pc' := 162) (L' := [some (aR 53), some (aI d), some (aI (pairsR sh E d)), some (aI (susS D n (E d) (sh 4 d))), some (aI i), some (aI v), some (aI i), some (aI y), some (aI z), some (aI y)]) dX12_tryNext_160 rfl (by decide) rfl ?_
                      refine j_iload (pc' := 164) (z := y) dX12_tryNext_162 rfl rfl ?_
                      refine j_istore (pc' := 166) (L' := [some (aR 53), some (aI d), some (aI (pairsR sh E d)), some (aI (susS D n (E d) (sh 4 d))), some (aI i), some (aI y), some (aI i), some (aI y), some (aI z), some (aI y)]) dX12_tryNext_164 rfl (by decide) rfl ?_
                      refine j_iinc (pc' := 169) (z := i) (L' := [some (aR 53), some (aI d), some (aI (pairsR sh E d)), some (aI (susS D n (E d) (sh 4 d))), some (aI i), some (aI y), some (aI (i + 1)), some (aI y), some (aI z), some (aI y)]) dX12_tryNext_166 rfl (by decide) rfl rfl rfl ?_
                      refine j_goto (pc' := 38) dX12_tryNext_169 (by decide) ?_
                      refine j_forget 7 (L' := [some (aR 53), some (aI d), some (aI (pairsR sh E d)), some (aI (susS D n (E d) (sh 4 d))), some (aI i), some (aI y), some (aI (i + 1)), none, some (aI z), some (aI y)]) rfl ?_
                      refine j_forget 8 (L' := [some (aR 53), some (aI d), some (aI (pairsR sh E d)), some (aI (susS D n (E d) (sh 4 d))), some (aI i), some (aI y), some (aI (i + 1)), none, none, some (aI y)]) rfl ?_
                      refine j_forget 9 (L' := [some (aR 53), some (aI d), some (aI (pairsR sh E d)), some (aI (susS D n (E d) (sh 4 d))), some (aI i), some (aI y), some (aI (i + 1)), none, none, none]) rfl ?_
                      exact ih38 _ (by omega) i y (i + 1) (by omega) (by unfold tnF at hv ⊢; rw [foldI_s (by omega), ← hv]; unfold tnH; first | (rw [if_pos (show v < tnW D n (susS D n (E d) (sh 4 d)) i by omega), show tnW D n (susS D n (E d) (sh 4 d)) i = y by omega]) | (rw [if_pos (show v < tnW D n (susS D n (E d) (sh 4 d)) i by omega), show tnW D n (susS D n (E d) (sh 4 d)) i = z by omega]) | rw [if_neg (show ¬ v < tnW D n (susS D n (E d) (sh 4 d)) i by omega)]) (by omega) rfl
                    · refine j_goto (pc' := 166) dX12_tryNext_155 (by decide) ?_
                      refine j_iinc (pc' := 169) (z := i) (L' := [some (aR 53), some (aI d), some (aI (pairsR sh E d)), some (aI (susS D n (E d) (sh 4 d))), some (aI b), some (aI v), some (aI (i + 1)), some (aI y), some (aI z), some (aI y)]) dX12_tryNext_166 rfl (by decide) rfl rfl rfl ?_
                      refine j_goto (pc' := 38) dX12_tryNext_169 (by decide) ?_
                      refine j_forget 7 (L' := [some (aR 53), some (aI d), some (aI (pairsR sh E d)), some (aI (susS D n (E d) (sh 4 d))), some (aI b), some (aI v), some (aI (i + 1)), none, some (aI z), some (aI y)]) rfl ?_
                      refine j_forget 8 (L' := [some (aR 53), some (aI d), some (aI (pairsR sh E d)), some (aI (susS D n (E d) (sh 4 d))), some (aI b), some (aI v), some (aI (i + 1)), none, none, some (aI y)]) rfl ?_
                      refine j_forget 9 (L' := [some (aR 53), some (aI d), some (aI (pairsR sh E d)), some (aI (susS D n (E d) (sh 4 d))), some (aI b), some (aI v), some (aI (i + 1)), none, none, none]) rfl ?_
                      exact ih38 _ (by omega) b v (i + 1) (by omega) (by unfold tnF at hv ⊢; rw [foldI_s (by omega), ← hv]; unfold tnH; first | (rw [if_pos (show v < tnW D n (susS D n (E d) (sh 4 d)) i by omega), show tnW D n (susS D n (E d) (sh 4 d)) i = y by omega]) | (rw [if_pos (show v < tnW D n (susS D n (E d) (sh 4 d)) i by omega), show tnW D n (susS D n (E d) (sh 4 d)) i = z by omega]) | rw [if_neg (show ¬ v < tnW D n (susS D n (E d) (sh 4 d)) i by omega)]) (by omega) rfl
                · have hbt : bt (susS D n (E d) (sh 4 d)) p = (susS D n (E d) (sh 4 d)) / 2 ^ (Int.toNat p) % 2 ^ 1 := rfl
                  have hb1 := bt_01 (x := (susS D n (E d) (sh 4 d))) (p := p)
                  have hlb := lds_bd (p := p) (pace := i) hB (by omega)
                  have hDp := hD p (by omega) (by omega)
                  refine j_iload_n (pc' := 66) (z := (susS D n (E d) (sh 4 d))) dX12_tryNext_65 rfl rfl ?_
                  refine j_iload (pc' := 68) (z := p) dX12_tryNext_66 rfl rfl ?_
                  refine j_ishr (pc' := 69) dX12_tryNext_68 rfl (by omega) (by omega) ?_
                  refine j_iconst (pc' := 70) dX12_tryNext_69 rfl ?_
                  refine j_imask (pc' := 71) 1 dX12_tryNext_70 rfl (by decide) rfl ?_
                  refine j_if_ne (tgt := 77) (pc' := 74) dX12_tryNext_71 (by decide) rfl (by omega) (fun h71 => ?_) (fun h71 => ?_)
                  · refine j_aload_n (pc' := 78) (z := 53) dX12_tryNext_77 rfl rfl ?_
                    refine j_get (pc' := 81) (v := aR 54) dX12_tryNext_78 rfl f_Mod_9 (by omega) hO rfl ?_
                    refine j_iload (pc' := 83) (z := p) dX12_tryNext_81 rfl rfl ?_
                    refine j_iload (pc' := 85) (z := i) dX12_tryNext_83 rfl rfl ?_
                    refine j_callS (pc' := 88) (as := [aR 54, aI p, aI i]) (rest := []) dX12_tryNext_85 rfl s_Mod_60 (c_Mod_loudOf hS (by omega) hR.w hB (by omega) (by omega)) rfl rfl rfl (jdet (st' := [aI (lds D p i)]) rfl ?_)
                    refine j_if_le (tgt := 110) (pc' := 91) dX12_tryNext_88 (by decide) rfl (by omega) (fun h88 => ?_) (fun h88 => ?_)
                    · refine j_iload (pc' := 112) (z := z) dX12_tryNext_110 rfl rfl ?_
                      refine j_aload_n (pc' := 113) (z := 53) dX12_tryNext_112 rfl rfl ?_
                      refine j_get (pc' := 116) (v := aR 54) dX12_tryNext_113 rfl f_Mod_9 (by omega) hO rfl ?_
                      refine j_iload (pc' := 118) (z := p) dX12_tryNext_116 rfl rfl ?_
                      refine j_iconst (pc' := 119) dX12_tryNext_118 rfl ?_
                      refine j_callS (pc' := 122) (as := [aI p, aI 3]) (rest := [aR 54, aI z]) dX12_tryNext_119 rfl s_Mod_53 c_Mod_at rfl rfl rfl (jdet (st' := [aI (6 + 6 * p + 3), aR 54, aI z]) rfl ?_)
                      refine j_iald (pc' := 123) dX12_tryNext_122 rfl (by omega) hS (by omega) (by decide) ?_
                      refine j_top (b := D 3 p) (hR.pj (j := 3) (p := p) (by omega) (by omega)) ?_
                      refine j_iadd (pc' := 124) dX12_tryNext_123 rfl ?_
                      refine j_istore (pc' := 126) (L' := [some (aR 53), some (aI d), some (aI (pairsR sh E d)), some (aI (susS D n (E d) (sh 4 d))), some (aI b), some (aI v), some (aI i), some (aI y), some (aI (z + (D 3 p))), some (aI p)]) dX12_tryNext_124 rfl (by decide) rfl ?_
                      refine j_iinc (pc' := 129) (z := p) (L' := [some (aR 53), some (aI d), some (aI (pairsR sh E d)), some (aI (susS D n (E d) (sh 4 d))), some (aI b), some (aI v), some (aI i), some (aI y), some (aI (z + (D 3 p))), some (aI (p + 1))]) dX12_tryNext_126 rfl (by decide) rfl rfl rfl ?_
                      refine j_goto (pc' := 54) dX12_tryNext_129 (by decide) ?_
                      exact ih54 _ (by omega) y (z + (D 3 p)) (p + 1) (by omega) (by rw [hy]; unfold tnA; rw [sumI_s (by omega)]; first | rw [if_pos (by omega)] | (rw [if_neg (by omega)]; omega)) (by rw [hz]; unfold tnB; rw [sumI_s (by omega)]; first | rw [if_pos (by omega)] | (rw [if_neg (by omega)]; omega)) rfl
                    · refine j_iload (pc' := 93) (z := y) dX12_tryNext_91 rfl rfl ?_
                      refine j_aload_n (pc' := 94) (z := 53) dX12_tryNext_93 rfl rfl ?_
                      refine j_get (pc' := 97) (v := aR 54) dX12_tryNext_94 rfl f_Mod_9 (by omega) hO rfl ?_
                      refine j_iload (pc' := 99) (z := p) dX12_tryNext_97 rfl rfl ?_
                      refine j_iconst (pc' := 100) dX12_tryNext_99 rfl ?_
                      refine j_callS (pc' := 103) (as := [aI p, aI 3]) (rest := [aR 54, aI y]) dX12_tryNext_100 rfl s_Mod_53 c_Mod_at rfl rfl rfl (jdet (st' := [aI (6 + 6 * p + 3), aR 54, aI y]) rfl ?_)
                      refine j_iald (pc' := 104) dX12_tryNext_103 rfl (by omega) hS (by omega) (by decide) ?_
                      refine j_top (b := D 3 p) (hR.pj (j := 3) (p := p) (by omega) (by omega)) ?_
                      refine j_iadd (pc' := 105) dX12_tryNext_104 rfl ?_
                      refine j_istore (pc' := 107) (L' := [some (aR 53), some (aI d), some (aI (pairsR sh E d)), some (aI (susS D n (E d) (sh 4 d))), some (aI b), some (aI v), some (aI i), some (aI (y + (D 3 p))), some (aI z), some (aI p)]) dX12_tryNext_105 rfl (by decide) rfl ?_
                      refine j_goto (pc' := 126) dX12_tryNext_107 (by decide) ?_
                      refine j_iinc (pc' := 129) (z := p) (L' := [some (aR 53), some (aI d), some (aI (pairsR sh E d)), some (aI (susS D n (E d) (sh 4 d))), some (aI b), some (aI v), some (aI i), some (aI (y + (D 3 p))), some (aI z), some (aI (p + 1))]) dX12_tryNext_126 rfl (by decide) rfl rfl rfl ?_
                      refine j_goto (pc' := 54) dX12_tryNext_129 (by decide) ?_
                      exact ih54 _ (by omega) (y + (D 3 p)) z (p + 1) (by omega) (by rw [hy]; unfold tnA; rw [sumI_s (by omega)]; first | rw [if_pos (by omega)] | (rw [if_neg (by omega)]; omega)) (by rw [hz]; unfold tnB; rw [sumI_s (by omega)]; first | rw [if_pos (by omega)] | (rw [if_neg (by omega)]; omega)) rfl
                  · refine j_goto (pc' := 126) dX12_tryNext_74 (by decide) ?_
                    refine j_iinc (pc' := 129) (z := p) (L' := [some (aR 53), some (aI d), some (aI (pairsR sh E d)), some (aI (susS D n (E d) (sh 4 d))), some (aI b), some (aI v), some (aI i), some (aI y), some (aI z), some (aI (p + 1))]) dX12_tryNext_126 rfl (by decide) rfl rfl rfl ?_
                    refine j_goto (pc' := 54) dX12_tryNext_129 (by decide) ?_
                    exact ih54 _ (by omega) y z (p + 1) (by omega) (by rw [hy]; unfold tnA; rw [sumI_s (by omega)]; first | rw [if_pos (by omega)] | (rw [if_neg (by omega)]; omega)) (by rw [hz]; unfold tnB; rw [sumI_s (by omega)]; first | rw [if_pos (by omega)] | (rw [if_neg (by omega)]; omega)) rfl
            exact lp54 _ 0 0 0 (by omega) (by rfl) (by rfl) rfl
      exact lp38 _ 0 (-1) 0 (by omega) (by rfl) (by omega) rfl
    · refine j_bipush (pc' := 28) dX12_tryNext_26 rfl (by decide) ?_
      exact j_iret dX12_tryNext_28 rfl (jM_of (by unfold tryA; rw [if_pos h7, if_pos (by omega)]) hT)
  · refine j_iload_n (pc' := 11) (z := (pairsR sh E d)) dX12_tryNext_10 rfl rfl ?_
    exact j_iret dX12_tryNext_11 rfl (jM_of (by unfold tryA; rw [if_neg h7]) hT)
set_option maxRecDepth 100000 in
set_option maxHeartbeats 4000000 in
theorem c_Mod_weightOf {l : Launch} {w : AW} {D Di : Int → Int → Int} {n mi hi ni mj : Int} {sh E : Int → Int → Int} {x : Int} (hM : Mod w D n mi hi Di ni mj sh E) (hB : CarOK D n mi) (hsh : ShOK sh E) (hx : 0 ≤ x ∧ x ≤ 127) : Call l m_Mod_weightOf false 68 68 [aR 53, aI x] w (rt (some (aI (wts D n x))) w) := by
  have hT := MS.rf hM
  have hM0 := hM
  obtain ⟨⟨pc, ra, re, fm, se, th, hO⟩, ⟨S, hS, hR⟩, ⟨Sm, hSm⟩, ⟨Si, hSi, hRi⟩, ⟨Sw, hSw⟩, ⟨nu, hnu⟩, ⟨ha, hha⟩, ⟨fg, hfg⟩, ke, kk, kf, so, si, el, ⟨hke, hkk, hkf, hso, hsi, hel⟩, hRel⟩ := hM
  obtain ⟨hn, hD, hs0, hs1, hs2, hs3⟩ := id hB
  refine Call.of (L := [some (aR 53), some (aI x), none, none]) rfl (Nat.le_of_ble_eq_true rfl) rfl (fun G ad => ?_)
  refine j_iconst (pc' := 1) dX12_weightOf_0 rfl ?_
  refine j_istore_n (pc' := 2) (L' := [some (aR 53), some (aI x), some (aI 0), none]) dX12_weightOf_1 rfl (by decide) rfl ?_
  refine j_iconst (pc' := 3) dX12_weightOf_2 rfl ?_
  refine j_istore_n (pc' := 4) (L' := [some (aR 53), some (aI x), some (aI 0), some (aI 0)]) dX12_weightOf_3 rfl (by decide) rfl ?_
  have lp4 : ∀ (k9 : Nat) (v : Int) (i : Int), (0 ≤ i ∧ i ≤ n) → (v = wts D i x) → ((n - i).toNat) = k9 → J l m_Mod_weightOf ad G [] false (jZ ad G false 68 m_Mod_weightOf.2.2.2.2.cells m_Mod_weightOf.2.2.2.2.slots (rt (some (aI (wts D n x))) w)) 68 0 0 4 [some (aR 53), some (aI x), some (aI v), some (aI i)] [] w := by
    intro k9
    induction k9 using Nat.strongRecOn with
    | _ k9 ih4 =>
      intro v i hi hv hk4
      refine j_iload_n (pc' := 5) (z := i) dX12_weightOf_4 rfl rfl ?_
      refine j_aload_n (pc' := 6) (z := 53) dX12_weightOf_5 rfl rfl ?_
      refine j_get (pc' := 9) (v := aR 54) dX12_weightOf_6 rfl f_Mod_9 (by omega) hO rfl ?_
      refine j_iconst (pc' := 10) dX12_weightOf_9 rfl ?_
      refine j_iald (pc' := 11) dX12_weightOf_10 rfl (by omega) hS (by omega) (by decide) ?_
      refine j_top (b := n) hR.pn ?_
      refine j_icmp_ge (tgt := 46) (pc' := 14) dX12_weightOf_11 (by decide) rfl (by omega) (by omega) (fun h11 => ?_) (fun h11 => ?_)
      · refine j_iload_n (pc' := 47) (z := v) dX12_weightOf_46 rfl rfl ?_
        exact j_iret dX12_weightOf_47 rfl (rt_eq (by rw [hv, show i = n by omega]))
      · refine j_iload_n (pc' := 15) (z := v) dX12_weightOf_14 rfl rfl ?_
        have hbt : bt x i = x / 2 ^ (Int.toNat i) % 2 ^ 1 := rfl
        have hDi := hD i (by omega) (by omega)
        refine j_iload_n (pc' := 16) (z := x) dX12_weightOf_15 rfl rfl ?_
        refine j_iload_n (pc' := 17) (z := i) dX12_weightOf_16 rfl rfl ?_
        refine j_ishr (pc' := 18) dX12_weightOf_17 rfl (by omega) (by omega) ?_
        refine j_iconst (pc' := 19) dX12_weightOf_18 rfl ?_
        refine j_imask (pc' := 20) 1 dX12_weightOf_19 rfl (by decide) rfl ?_
        refine j_iconst (pc' := 21) dX12_weightOf_20 rfl ?_
        refine j_icmp_ne (tgt := 37) (pc' := 24) dX12_weightOf_21 (by decide) rfl (by omega) (by omega) (fun h21 => ?_) (fun h21 => ?_)
        · refine j_iconst (pc' := 38) dX12_weightOf_37 rfl ?_
          refine j_iadd (pc' := 39) dX12_weightOf_38 rfl ?_
          refine j_istore_n (pc' := 40) (L' := [some (aR 53), some (aI x), some (aI (v + 0)), some (aI i)]) dX12_weightOf_39 rfl (by decide) rfl ?_
          refine j_iinc (pc' := 43) (z := i) (L' := [some (aR 53), some (aI x), some (aI (v + 0)), some (aI (i + 1))]) dX12_weightOf_40 rfl (by decide) rfl rfl rfl ?_
          refine j_goto (pc' := 4) dX12_weightOf_43 (by decide) ?_
          exact ih4 _ (by omega) (v + 0) (i + 1) (by omega) (by rw [hv]; unfold wts; rw [sumI_s (by omega)]; first | (rw [if_pos (show bt x i = 1 by omega)]; try omega) | (rw [if_neg (show ¬ bt x i = 1 by omega)]; try omega)) rfl
        · refine j_aload_n (pc' := 25) (z := 53) dX12_weightOf_24 rfl rfl ?_
          refine j_get (pc' := 28) (v := aR 54) dX12_weightOf_25 rfl f_Mod_9 (by omega) hO rfl ?_
          refine j_iload_n (pc' := 29) (z := i) dX12_weightOf_28 rfl rfl ?_
          refine j_iconst (pc' := 30) dX12_weightOf_29 rfl ?_
          refine j_callS (pc' := 33) (as := [aI i, aI 3]) (rest := [aR 54, aI v]) dX12_weightOf_30 rfl s_Mod_53 c_Mod_at rfl rfl rfl (jdet (st' := [aI (6 + 6 * i + 3), aR 54, aI v]) rfl ?_)
          refine j_iald (pc' := 34) dX12_weightOf_33 rfl (by omega) hS (by omega) (by decide) ?_
          refine j_top (b := D 3 i) (hR.pj (j := 3) (p := i) (by omega) (by omega)) ?_
          refine j_goto (pc' := 38) dX12_weightOf_34 (by decide) ?_
          refine j_iadd (pc' := 39) dX12_weightOf_38 rfl ?_
          refine j_istore_n (pc' := 40) (L' := [some (aR 53), some (aI x), some (aI (v + (D 3 i))), some (aI i)]) dX12_weightOf_39 rfl (by decide) rfl ?_
          refine j_iinc (pc' := 43) (z := i) (L' := [some (aR 53), some (aI x), some (aI (v + (D 3 i))), some (aI (i + 1))]) dX12_weightOf_40 rfl (by decide) rfl rfl rfl ?_
          refine j_goto (pc' := 4) dX12_weightOf_43 (by decide) ?_
          exact ih4 _ (by omega) (v + (D 3 i)) (i + 1) (by omega) (by rw [hv]; unfold wts; rw [sumI_s (by omega)]; first | (rw [if_pos (show bt x i = 1 by omega)]; try omega) | (rw [if_neg (show ¬ bt x i = 1 by omega)]; try omega)) rfl
  exact lp4 _ 0 0 (by omega) (by rfl) rfl
set_option maxRecDepth 100000 in
set_option maxHeartbeats 4000000 in
theorem c_Mod_isSet {l : Launch} {w : AW} {D Di : Int → Int → Int} {n mi hi ni mj : Int} {sh E : Int → Int → Int} {x : Int} (hM : Mod w D n mi hi Di ni mj sh E) (hB : CarOK D n mi) (hsh : ShOK sh E) (hx : inI x) : Call l m_Mod_isSet false 68 68 [aR 53, aI x] w (rt (some (aB (1 ≤ x ∧ x < 2 ^ n.toNat))) w) := by
  have hT := MS.rf hM
  have hM0 := hM
  obtain ⟨⟨pc, ra, re, fm, se, th, hO⟩, ⟨S, hS, hR⟩, ⟨Sm, hSm⟩, ⟨Si, hSi, hRi⟩, ⟨Sw, hSw⟩, ⟨nu, hnu⟩, ⟨ha, hha⟩, ⟨fg, hfg⟩, ke, kk, kf, so, si, el, ⟨hke, hkk, hkf, hso, hsi, hel⟩, hRel⟩ := hM
  obtain ⟨hn, hD, hs0, hs1, hs2, hs3⟩ := id hB
  refine Call.of (L := [some (aR 53), some (aI x)]) rfl (Nat.le_of_ble_eq_true rfl) rfl (fun G ad => ?_)
  refine j_iload_n (pc' := 1) (z := x) dX12_isSet_0 rfl rfl ?_
  refine j_iconst (pc' := 2) dX12_isSet_1 rfl ?_
  refine j_icmp_lt (tgt := 21) (pc' := 5) dX12_isSet_2 (by decide) rfl (by omega) (by omega) (fun h2 => ?_) (fun h2 => ?_)
  · refine j_iconst (pc' := 22) dX12_isSet_21 rfl ?_
    exact j_zret0 dX12_isSet_22 rfl (rt_b0 (by omega))
  · refine j_iload_n (pc' := 6) (z := x) dX12_isSet_5 rfl rfl ?_
    refine j_iconst (pc' := 7) dX12_isSet_6 rfl ?_
    refine j_aload_n (pc' := 8) (z := 53) dX12_isSet_7 rfl rfl ?_
    refine j_get (pc' := 11) (v := aR 54) dX12_isSet_8 rfl f_Mod_9 (by omega) hO rfl ?_
    refine j_iconst (pc' := 12) dX12_isSet_11 rfl ?_
    refine j_iald (pc' := 13) dX12_isSet_12 rfl (by omega) hS (by omega) (by decide) ?_
    refine j_top (b := n) hR.pn ?_
    have hpw := pow7 (n := n) (by omega)
    refine j_ishl1 (pc' := 14) dX12_isSet_13 rfl (by omega) ?_
    refine j_icmp_ge (tgt := 21) (pc' := 17) dX12_isSet_14 (by decide) rfl (by omega) (by omega) (fun h14 => ?_) (fun h14 => ?_)
    · refine j_iconst (pc' := 22) dX12_isSet_21 rfl ?_
      exact j_zret0 dX12_isSet_22 rfl (rt_b0 (by omega))
    · refine j_iconst (pc' := 18) dX12_isSet_17 rfl ?_
      refine j_goto (pc' := 22) dX12_isSet_18 (by decide) ?_
      exact j_zret1 dX12_isSet_22 rfl (rt_b1 (by omega))
set_option maxRecDepth 100000 in
set_option maxHeartbeats 4000000 in
theorem c_Mod_gcd {l : Launch} {w : AW} {a b : Int} (ha : 0 ≤ a ∧ a ≤ 2199023255552) (hb : 0 ≤ b ∧ b ≤ 2199023255552) : Call l m_Mod_gcd false 68 68 [aL a, aL b] w (rt (some (aL (gcdI a b))) w) := by
  refine Call.of (L := [some (aL a), none, some (aL b), none, none, none, none, none, none, none]) rfl (Nat.le_of_ble_eq_true rfl) rfl (fun G ad => ?_)
  refine j_lload_n (pc' := 1) (z := a) dX12_gcd_0 rfl rfl ?_
  refine j_lstore (pc' := 3) (L' := [some (aL a), none, some (aL b), none, some (aL a), none, none, none, none, none]) dX12_gcd_1 rfl (by decide) rfl ?_
  refine j_lload_n (pc' := 4) (z := b) dX12_gcd_3 rfl rfl ?_
  refine j_lstore (pc' := 6) (L' := [some (aL a), none, some (aL b), none, some (aL a), none, some (aL b), none, none, none]) dX12_gcd_4 rfl (by decide) rfl ?_
  have lp6 : ∀ (k9 : Nat) (g : Int) (x : Int), (0 ≤ g ∧ g ≤ 2199023255552) → (0 ≤ x ∧ x ≤ 2199023255552) → (gcdI g x = gcdI a b) → (x.toNat) = k9 → J l m_Mod_gcd ad G [] false (jZ ad G false 68 m_Mod_gcd.2.2.2.2.cells m_Mod_gcd.2.2.2.2.slots (rt (some (aL (gcdI a b))) w)) 68 0 0 6 [some (aL a), none, some (aL b), none, some (aL g), none, some (aL x), none, none, none] [] w := by
    intro k9
    induction k9 using Nat.strongRecOn with
    | _ k9 ih6 =>
      intro g x hg hx hgc hk6
      refine j_lload (pc' := 8) (z := x) dX12_gcd_6 rfl rfl ?_
      refine j_lconst (pc' := 9) (z := 0) dX12_gcd_8 rfl rfl ?_
      have hlz := lcI_z (a := x) (b := 0)
      have hlb := lcI_bd (a := x) (b := 0)
      refine j_lcmp (pc' := 10) dX12_gcd_9 rfl (by omega) (by omega) ?_
      refine j_if_eq (tgt := 31) (pc' := 13) dX12_gcd_10 (by decide) rfl (by omega) (fun h10 => ?_) (fun h10 => ?_)
      · refine j_lload (pc' := 33) (z := g) dX12_gcd_31 rfl rfl ?_
        exact j_lret dX12_gcd_33 rfl (rt_eqL (by rw [← hgc, show x = 0 by omega]; exact (gcdI_0 hg.1).symm))
      · have hx0 : 0 < x := by omega
        have hm1 := Int.emod_nonneg g (show x ≠ 0 by omega)
        have hm2 := Int.emod_lt_of_pos g hx0
        refine j_lload (pc' := 15) (z := g) dX12_gcd_13 rfl rfl ?_
        refine j_lload (pc' := 17) (z := x) dX12_gcd_15 rfl rfl ?_
        refine j_lrem (pc' := 18) dX12_gcd_17 rfl (by omega) (by omega) ?_
        refine j_lstore (pc' := 20) (L' := [some (aL a), none, some (aL b), none, some (aL g), none, some (aL x), none, some (aL (g % x)), none]) dX12_gcd_18 rfl (by decide) rfl ?_
        refine j_lload (pc' := 22) (z := x) dX12_gcd_20 rfl rfl ?_
        refine j_lstore (pc' := 24) (L' := [some (aL a), none, some (aL b), none, some (aL x), none, some (aL x), none, some (aL (g % x)), none]) dX12_gcd_22 rfl (by decide) rfl ?_
        refine j_lload (pc' := 26) (z := (g % x)) dX12_gcd_24 rfl rfl ?_
        refine j_lstore (pc' := 28) (L' := [some (aL a), none, some (aL b), none, some (aL x), none, some (aL (g % x)), none, some (aL (g % x)), none]) dX12_gcd_26 rfl (by decide) rfl ?_
        refine j_goto (pc' := 6) dX12_gcd_28 (by decide) ?_
        refine j_forget 8 (L' := [some (aL a), none, some (aL b), none, some (aL x), none, some (aL (g % x)), none, none, none]) rfl ?_
        exact ih6 _ (by omega) x (g % x) (by omega) (by omega) (by rw [gcdI_s hg.1 hx0]; exact hgc) rfl
  exact lp6 _ a b (by omega) (by omega) (by rfl) rfl
set_option maxRecDepth 100000 in
set_option maxHeartbeats 4000000 in
theorem c_Mod_partOf {l : Launch} {w : AW} {a b p : Int} (ha : 0 ≤ a ∧ a ≤ 2199023255552) (hb : 0 ≤ b ∧ b ≤ 2199023255552) (hp : 0 ≤ p ∧ p ≤ 1) (hab : 0 < a → 0 < b) : Call l m_Mod_partOf false 68 68 [aL a, aL b, aI p] w (rt (some (aL (lowT a b p))) w) := by
  refine Call.of (L := [some (aL a), none, some (aL b), none, some (aI p)]) rfl (Nat.le_of_ble_eq_true rfl) rfl (fun G ad => ?_)
  refine j_lload_n (pc' := 1) (z := a) dX12_partOf_0 rfl rfl ?_
  refine j_lconst (pc' := 2) (z := 0) dX12_partOf_1 rfl rfl ?_
  have hlz := lcI_z (a := a) (b := 0)
  have hlb := lcI_bd (a := a) (b := 0)
  refine j_lcmp (pc' := 3) dX12_partOf_2 rfl (by omega) (by omega) ?_
  refine j_if_ne (tgt := 10) (pc' := 6) dX12_partOf_3 (by decide) rfl (by omega) (fun h3 => ?_) (fun h3 => ?_)
  · have ha0 : 0 < a := by omega
    have hgp := gcdI_pos (a := a) (b := b) (by omega) (by omega)
    refine j_iload (pc' := 12) (z := p) dX12_partOf_10 rfl rfl ?_
    refine j_if_ne (tgt := 19) (pc' := 15) dX12_partOf_12 (by decide) rfl (by omega) (fun h12 => ?_) (fun h12 => ?_)
    · refine j_lload_n (pc' := 20) (z := b) dX12_partOf_19 rfl rfl ?_
      refine j_lload_n (pc' := 21) (z := a) dX12_partOf_20 rfl rfl ?_
      refine j_lload_n (pc' := 22) (z := b) dX12_partOf_21 rfl rfl ?_
      refine j_callS (pc' := 25) (as := [aL a, aL b]) (rest := [aL b]) dX12_partOf_22 rfl s_Mod_169 (c_Mod_gcd (by omega) (by omega)) rfl rfl rfl (jdet (st' := [aL (gcdI a b), aL b]) rfl ?_)
      refine j_ldiv (pc' := 26) dX12_partOf_25 rfl (by omega) (by omega) ?_
      exact j_lret dX12_partOf_26 rfl (rt_eqL (by unfold lowT; rw [if_neg (by omega)]; first | rw [if_pos (by omega)] | rw [if_neg (by omega)]))
    · refine j_lload_n (pc' := 16) (z := a) dX12_partOf_15 rfl rfl ?_
      refine j_goto (pc' := 20) dX12_partOf_16 (by decide) ?_
      refine j_lload_n (pc' := 21) (z := a) dX12_partOf_20 rfl rfl ?_
      refine j_lload_n (pc' := 22) (z := b) dX12_partOf_21 rfl rfl ?_
      refine j_callS (pc' := 25) (as := [aL a, aL b]) (rest := [aL a]) dX12_partOf_22 rfl s_Mod_169 (c_Mod_gcd (by omega) (by omega)) rfl rfl rfl (jdet (st' := [aL (gcdI a b), aL a]) rfl ?_)
      refine j_ldiv (pc' := 26) dX12_partOf_25 rfl (by omega) (by omega) ?_
      exact j_lret dX12_partOf_26 rfl (rt_eqL (by unfold lowT; rw [if_neg (by omega)]; first | rw [if_pos (by omega)] | rw [if_neg (by omega)]))
  · refine j_iload (pc' := 8) (z := p) dX12_partOf_6 rfl rfl ?_
    refine j_i2l (pc' := 9) dX12_partOf_8 rfl (by omega) ?_
    exact j_lret dX12_partOf_9 rfl (rt_eqL (by exact (low_0 (by omega) (by omega) (by omega)).symm))
