theorem obo_st {D : Int → Int → Int} {n mi set x r v k : Int} (hB : CarOK D n mi) (hx : 1 ≤ x ∧ x < 2 ^ n.toNat) (hr : 0 ≤ r ∧ r < n) (hb : bt x r = 1) (hm : ∀ q, 0 ≤ q → q < n → bt x q = 1 → D 3 q ≤ D 3 r) (hH : ∀ c, OB ((wl D x n).length - 1) (wl D x n) c → oboV D n set = v + (k - 1) * wts D n x + c) : (andn x (2 ^ r.toNat) = 0 → v + (k - 1) * D 3 r = oboV D n set) ∧ (¬ andn x (2 ^ r.toNat) = 0 → ∀ c, OB ((wl D (andn x (2 ^ r.toNat)) n).length - 1) (wl D (andn x (2 ^ r.toNat)) n) c → oboV D n set = v + k * D 3 r + (k + 1 - 1) * wts D n (andn x (2 ^ r.toNat)) + c) := by
  have hn := hB.1
  have hpw := pow7 (n := n) (by omega)
  have h6 := pw64 (p := r) (by omega)
  have ht : ∀ q, 0 ≤ q → (bt (andn x (2 ^ r.toNat)) q = 1 ↔ bt x q = 1 ∧ q ≠ r) := by
    intro q hq
    rw [bt_andn (by omega) (by omega) hq, bt_pow hr.1 hq]
  have hl := andn_le (a := x) (b := 2 ^ r.toNat) (by omega)
  have hw := (wl_rem (D := D) ⟨hr.1, hb⟩ ht n.toNat).2 (by omega)
  rw [Int.toNat_of_nonneg hn.1] at hw
  have hlen := hw.length_eq
  rw [List.length_cons] at hlen
  have hsum := lsum_perm hw
  have hsum2 : lsum (D 3 r :: wl D (andn x (2 ^ r.toNat)) n) = D 3 r + lsum (wl D (andn x (2 ^ r.toNat)) n) := rfl
  rw [hsum2, wl_sum hn.1, wl_sum hn.1] at hsum
  constructor
  · intro h0
    have e0 : wl D (andn x (2 ^ r.toNat)) n = [] := by
      rw [h0]
      have : ∀ y, ¬ y ∈ wl D 0 n := fun y hy => by
        obtain ⟨p, _, p2, _⟩ := (wl_mem hn.1).mp hy
        have e : bt 0 p = 0 := by unfold bt; rw [Int.zero_ediv]; rfl
        omega
      exact List.eq_nil_iff_forall_not_mem.mpr this
    rw [e0] at hw
    have e1 : wl D x n = [D 3 r] := (List.perm_singleton.mp hw)
    have := hH 0 (by rw [e1]; exact ⟨⟨_, rfl⟩, rfl⟩)
    have e2 : wts D n x = D 3 r := by rw [← wl_sum hn.1, e1]; show D 3 r + 0 = _; omega
    rw [e2] at this
    omega
  · intro h0 c hc
    have hl2 := wl_len (D := D) (set := andn x (2 ^ r.toNat)) hn.1 (by omega)
    have := hH (c + lsum (wl D x n)) (by
      rw [hlen, show (wl D (andn x (2 ^ r.toNat)) n).length + 1 - 1 = ((wl D (andn x (2 ^ r.toNat)) n).length - 1) + 1 by omega]
      refine ⟨D 3 r, wl D (andn x (2 ^ r.toNat)) n, c, hw, fun y hy => ?_, hc, rfl⟩
      obtain ⟨p, p1, p2, p3⟩ := (wl_mem hn.1).mp hy
      rw [← p3]
      exact hm p p1.1 p1.2 ((ht p p1.1).mp p2).1)
    rw [this, wl_sum hn.1, hsum, Int.mul_add, Int.sub_mul, Int.sub_mul, Int.one_mul, Int.one_mul, show k + 1 - 1 = k by omega]
    omega
theorem obo_bd {D : Int → Int → Int} {n mi set : Int} (hB : CarOK D n mi) (hs : 1 ≤ set ∧ set < 2 ^ n.toNat) : OB ((wl D set n).length - 1) (wl D set n) (oboV D n set) ∧ 0 ≤ oboV D n set ∧ oboV D n set ≤ 378 ∧ (0 < oboV D n set → 0 < wts D n set) := by
  have hn := hB.1
  have hlen := wl_len (D := D) hn.1 hs
  have hle := wl_le (D := D) (set := set) hn.1
  obtain ⟨c, hc⟩ := OB_ex ((wl D set n).length - 1) (wl D set n) (by omega)
  rw [oboV_eq hc]
  have h1 := OB_le hc (fun x hx => (wl_bd hB x hx).1)
  rw [wl_sum hn.1] at h1
  have hw := wts_bd (set := set) hB
  have h2 : (((wl D set n).length - 1 : Nat) : Int) * wts D n set ≤ 6 * 63 := Int.mul_le_mul (by omega) (by omega) (by omega) (by omega)
  refine ⟨hc, h1.1, by omega, fun q => ?_⟩
  rcases Int.lt_or_le 0 (wts D n set) with z | z
  · exact z
  · have : wts D n set = 0 := by omega
    rw [this] at h1
    omega
theorem hal_bd {D : Int → Int → Int} {n mi set : Int} (hB : CarOK D n mi) (hs : 1 ≤ set ∧ set < 2 ^ n.toNat) : 0 ≤ halV D n set ∧ halV D n set ≤ 378 ∧ (0 < halV D n set → 0 < wts D n set) := by
  have hn := hB.1
  have hlen := wl_len (D := D) hn.1 hs
  have hle := wl_le (D := D) (set := set) hn.1
  obtain ⟨c, hc⟩ := HC_ex ((wl D set n).length - 1) (wl D set n) (by omega)
  rw [halV_eq hc]
  have h1 := HC_le hc (fun x hx => (wl_bd hB x hx).1)
  have h0 := HC_pos hc (fun x hx => (wl_bd hB x hx).1)
  rw [wl_sum hn.1] at h1
  have hw := wts_bd (set := set) hB
  have h2 : (((wl D set n).length - 1 : Nat) : Int) * wts D n set ≤ 6 * 63 := Int.mul_le_mul (by omega) (by omega) (by omega) (by omega)
  refine ⟨h0, by omega, fun q => ?_⟩
  rcases Int.lt_or_le 0 (wts D n set) with z | z
  · exact z
  · have : wts D n set = 0 := by omega
    rw [this] at h1
    omega
set_option maxRecDepth 100000 in
set_option maxHeartbeats 4000000 in
theorem c_Mod_halvesOf {l : Launch} {w : AW} {D Di : Int → Int → Int} {n mi hi ni mj : Int} {sh E : Int → Int → Int} {x : Int} (hM : Mod w D n mi hi Di ni mj sh E) (hB : CarOK D n mi) (hsh : ShOK sh E) (hset : 1 ≤ x ∧ x < 2 ^ n.toNat) : Call l m_Mod_halvesOf false 68 68 [aR 53, aI x] w (fun r w9 => r = some (aI (halV D n x)) ∧ ∃ Q9, w9 = up w 59 (eI 128 Q9)) := by
  have hT := MS.rf hM
  have hM0 := hM
  obtain ⟨⟨pc, ra, re, fm, se, th, hO⟩, ⟨S, hS, hR⟩, ⟨Sm, hSm⟩, ⟨Si, hSi, hRi⟩, ⟨Sw, hSw⟩, ⟨nu, hnu⟩, ⟨ha, hha⟩, ⟨fg, hfg⟩, ke, kk, kf, so, si, el, ⟨hke, hkk, hkf, hso, hsi, hel⟩, hRel⟩ := hM
  obtain ⟨hn, hD, hs0, hs1, hs2, hs3⟩ := id hB
  have hpw := pow7 (n := n) (by omega)
  refine Call.of (L := [some (aR 53), some (aI x), none, none, none]) rfl (Nat.le_of_ble_eq_true rfl) rfl (fun G ad => ?_)
  refine j_iconst (pc' := 1) dX12_halvesOf_0 rfl ?_
  refine j_istore_n (pc' := 2) (L' := [some (aR 53), some (aI x), some (aI 1), none, none]) dX12_halvesOf_1 rfl (by decide) rfl ?_
  have lp2 : ∀ (k9 : Nat) (k : Int) (X : Int → Int), (1 ≤ k ∧ k ≤ x + 1) → (∀ j, 1 ≤ j → j < k → andn j x = 0 → Gd D n X j) → ((x + 1 - k).toNat) = k9 → J l m_Mod_halvesOf ad G [] false (jZ ad G false 68 m_Mod_halvesOf.2.2.2.2.cells m_Mod_halvesOf.2.2.2.2.slots (fun r w9 => r = some (aI (halV D n x)) ∧ ∃ Q9, w9 = up w 59 (eI 128 Q9))) 68 0 0 2 [some (aR 53), some (aI x), some (aI k), none, none] [] (up w 59 (eI 128 X)) := by
    intro k9
    induction k9 using Nat.strongRecOn with
    | _ k9 ih2 =>
      intro k X hk hG hk2
      refine j_iload_n (pc' := 3) (z := k) dX12_halvesOf_2 rfl rfl ?_
      refine j_iload_n (pc' := 4) (z := x) dX12_halvesOf_3 rfl rfl ?_
      refine j_icmp_gt (tgt := 121) (pc' := 7) dX12_halvesOf_4 (by decide) rfl (by omega) (by omega) (fun h4 => ?_) (fun h4 => ?_)
      · refine j_aload_n (pc' := 122) (z := 53) dX12_halvesOf_121 rfl rfl ?_
        refine j_get (pc' := 125) (v := aR 59) dX12_halvesOf_122 rfl f_Mod_25 (by omega) ((up_n (by omega)).trans hO) rfl ?_
        refine j_iload_n (pc' := 126) (z := x) dX12_halvesOf_125 rfl rfl ?_
        refine j_iald (pc' := 127) dX12_halvesOf_126 rfl (by omega) up_s (by omega) (by decide) ?_
        exact j_iret dX12_halvesOf_127 rfl (id (by exact ⟨by rw [← dp_eq hB hset (fun j j1 j2 j3 => hG j j1 (by omega) j3)], X, rfl⟩))
      · have hal := andn_le (a := k) (b := x) (by omega)
        refine j_iload_n (pc' := 8) (z := k) dX12_halvesOf_7 rfl rfl ?_
        refine j_iload_n (pc' := 9) (z := x) dX12_halvesOf_8 rfl rfl ?_
        refine j_iconst (pc' := 10) dX12_halvesOf_9 rfl ?_
        refine j_inot (pc' := 11) dX12_halvesOf_10 rfl ?_
        refine j_iandn (pc' := 12) (a := k) (b := x) dX12_halvesOf_11 rfl (by omega) (by omega) ?_
        refine j_if_eq (tgt := 18) (pc' := 15) dX12_halvesOf_12 (by decide) rfl (by omega) (fun h12 => ?_) (fun h12 => ?_)
        · refine j_aload_n (pc' := 19) (z := 53) dX12_halvesOf_18 rfl rfl ?_
          refine j_get (pc' := 22) (v := aR 59) dX12_halvesOf_19 rfl f_Mod_25 (by omega) ((up_n (by omega)).trans hO) rfl ?_
          refine j_iload_n (pc' := 23) (z := k) dX12_halvesOf_22 rfl rfl ?_
          refine j_iload_n (pc' := 24) (z := k) dX12_halvesOf_23 rfl rfl ?_
          refine j_callS (pc' := 27) (as := [aI k]) (rest := [aI k, aR 59]) dX12_halvesOf_24 rfl s_Mod_153 (c_Mod_bits (by omega)) rfl rfl rfl (jdet (st' := [aI (pop k), aI k, aR 59]) rfl ?_)
          have hpb := pop_bd' (x := k) (by omega)
          refine j_iconst (pc' := 28) dX12_halvesOf_27 rfl ?_
          refine j_icmp_ne (tgt := 35) (pc' := 31) dX12_halvesOf_28 (by decide) rfl (by omega) (by omega) (fun h28 => ?_) (fun h28 => ?_)
          · refine j_ldc (pc' := 37) (n := 1000000000) dX12_halvesOf_35 rfl k_Mod_165 (by decide) ?_
            refine j_iast (pc' := 38) dX12_halvesOf_37 rfl (by omega) up_s (by omega) (by decide) ?_
            refine j_w (w' := up w 59 (eI 128 (upi X k 1000000000))) (by funext j9; simp only [up]; (repeat' split) <;> first | rfl | (exfalso; omega)) ?_
            refine j_iconst (pc' := 39) dX12_halvesOf_38 rfl ?_
            refine j_istore_n (pc' := 40) (L' := [some (aR 53), some (aI x), some (aI k), some (aI 1), none]) dX12_halvesOf_39 rfl (by decide) rfl ?_
            have lp40 : ∀ (k9 : Nat) (m : Int) (Y : Int → Int), (1 ≤ m ∧ m ≤ k) → (∀ j, 1 ≤ j → j < k → andn j x = 0 → Gd D n Y j) → (Cu D n Y k m) → ((k - m).toNat) = k9 → J l m_Mod_halvesOf ad G [] false (jZ ad G false 68 m_Mod_halvesOf.2.2.2.2.cells m_Mod_halvesOf.2.2.2.2.slots (fun r w9 => r = some (aI (halV D n x)) ∧ ∃ Q9, w9 = up w 59 (eI 128 Q9))) 68 0 0 40 [some (aR 53), some (aI x), some (aI k), some (aI m), none] [] (up w 59 (eI 128 Y)) := by
              intro k9
              induction k9 using Nat.strongRecOn with
              | _ k9 ih40 =>
                intro m Y hm hY hCu hk40
                refine j_iload_n (pc' := 41) (z := m) dX12_halvesOf_40 rfl rfl ?_
                refine j_iload_n (pc' := 42) (z := k) dX12_halvesOf_41 rfl rfl ?_
                refine j_icmp_ge (tgt := 115) (pc' := 45) dX12_halvesOf_42 (by decide) rfl (by omega) (by omega) (fun h42 => ?_) (fun h42 => ?_)
                · refine j_iinc (pc' := 118) (z := k) (L' := [some (aR 53), some (aI x), some (aI (k + 1)), some (aI m), none]) dX12_halvesOf_115 rfl (by decide) rfl rfl rfl ?_
                  refine j_goto (pc' := 2) dX12_halvesOf_118 (by decide) ?_
                  refine j_forget 3 (L' := [some (aR 53), some (aI x), some (aI (k + 1)), none, none]) rfl ?_
                  exact ih2 _ (by omega) (k + 1) Y (by omega) (by intro j j1 j2 j3; by_cases jk : j = k; (subst jk; exact Cu_end (by omega) (by rw [show m = j by omega] at hCu; exact hCu)); (exact hY j j1 (by omega) j3)) rfl
                · have haml := andn_le (a := m) (b := k) (by omega)
                  have hcb := Cu_bd (by omega) hCu
                  refine j_iload_n (pc' := 46) (z := m) dX12_halvesOf_45 rfl rfl ?_
                  refine j_iload_n (pc' := 47) (z := k) dX12_halvesOf_46 rfl rfl ?_
                  refine j_iconst (pc' := 48) dX12_halvesOf_47 rfl ?_
                  refine j_inot (pc' := 49) dX12_halvesOf_48 rfl ?_
                  refine j_iandn (pc' := 50) (a := m) (b := k) dX12_halvesOf_49 rfl (by omega) (by omega) ?_
                  refine j_if_eq (tgt := 56) (pc' := 53) dX12_halvesOf_50 (by decide) rfl (by omega) (fun h50 => ?_) (fun h50 => ?_)
                  · have hadd := andn_add (a := m) (k := k) (by omega) (by omega) h50
                    have hsub := andn_sub (a := m) (k := k) (by omega) (by omega)
                    have hg1 := hY m (by omega) (by omega) (sub_tr (by omega) (by omega) (by omega) h50 h12)
                    have hg2 := hY (andn k m) (by omega) (by omega) (sub_tr (by omega) (by omega) (by omega) hsub h12)
                    have hb1 := hg1.1
                    have hb2 := hg2.1
                    have hwb := wts_bd (set := k) hB
                    refine j_aload_n (pc' := 57) (z := 53) dX12_halvesOf_56 rfl rfl ?_
                    refine j_get (pc' := 60) (v := aR 59) dX12_halvesOf_57 rfl f_Mod_25 (by omega) ((up_n (by omega)).trans hO) rfl ?_
                    refine j_iload_n (pc' := 61) (z := m) dX12_halvesOf_60 rfl rfl ?_
                    refine j_iald (pc' := 62) dX12_halvesOf_61 rfl (by omega) up_s (by omega) (by decide) ?_
                    refine j_aload_n (pc' := 63) (z := 53) dX12_halvesOf_62 rfl rfl ?_
                    refine j_get (pc' := 66) (v := aR 59) dX12_halvesOf_63 rfl f_Mod_25 (by omega) ((up_n (by omega)).trans hO) rfl ?_
                    refine j_iload_n (pc' := 67) (z := k) dX12_halvesOf_66 rfl rfl ?_
                    refine j_iload_n (pc' := 68) (z := m) dX12_halvesOf_67 rfl rfl ?_
                    refine j_iconst (pc' := 69) dX12_halvesOf_68 rfl ?_
                    refine j_inot (pc' := 70) dX12_halvesOf_69 rfl ?_
                    refine j_iandn (pc' := 71) (a := k) (b := m) dX12_halvesOf_70 rfl (by omega) (by omega) ?_
                    refine j_iald (pc' := 72) dX12_halvesOf_71 rfl (by omega) up_s (by omega) (by decide) ?_
                    refine j_iadd (pc' := 73) dX12_halvesOf_72 rfl ?_
                    refine j_aload_n (pc' := 74) (z := 53) dX12_halvesOf_73 rfl rfl ?_
                    refine j_iload_n (pc' := 75) (z := k) dX12_halvesOf_74 rfl rfl ?_
                    refine j_callV (pc' := 78) (as := [aI k]) (rest := [aI ((Y m) + (Y (andn k m)))]) dX12_halvesOf_75 rfl s_Mod_166 (c_Mod_weightOf hT.ha.1 hB hsh (by omega)) (by omega) ((up_n (by omega)).trans hO) rfl rfl rfl rfl (jdet (st' := [aI (wts D n k), aI ((Y m) + (Y (andn k m)))]) rfl ?_)
                    refine j_iadd (pc' := 79) dX12_halvesOf_78 rfl ?_
                    refine j_istore (pc' := 81) (L' := [some (aR 53), some (aI x), some (aI k), some (aI m), some (aI (Y m + Y (andn k m) + wts D n k))]) dX12_halvesOf_79 rfl (by decide) rfl ?_
                    refine j_aload_n (pc' := 82) (z := 53) dX12_halvesOf_81 rfl rfl ?_
                    refine j_get (pc' := 85) (v := aR 59) dX12_halvesOf_82 rfl f_Mod_25 (by omega) ((up_n (by omega)).trans hO) rfl ?_
                    refine j_iload_n (pc' := 86) (z := k) dX12_halvesOf_85 rfl rfl ?_
                    refine j_iload (pc' := 88) (z := (Y m + Y (andn k m) + wts D n k)) dX12_halvesOf_86 rfl rfl ?_
                    refine j_aload_n (pc' := 89) (z := 53) dX12_halvesOf_88 rfl rfl ?_
                    refine j_get (pc' := 92) (v := aR 59) dX12_halvesOf_89 rfl f_Mod_25 (by omega) ((up_n (by omega)).trans hO) rfl ?_
                    refine j_iload_n (pc' := 93) (z := k) dX12_halvesOf_92 rfl rfl ?_
                    refine j_iald (pc' := 94) dX12_halvesOf_93 rfl (by omega) up_s (by omega) (by decide) ?_
                    refine j_icmp_ge (tgt := 102) (pc' := 97) dX12_halvesOf_94 (by decide) rfl (by omega) (by omega) (fun h94 => ?_) (fun h94 => ?_)
                    · refine j_aload_n (pc' := 103) (z := 53) dX12_halvesOf_102 rfl rfl ?_
                      refine j_get (pc' := 106) (v := aR 59) dX12_halvesOf_103 rfl f_Mod_25 (by omega) ((up_n (by omega)).trans hO) rfl ?_
                      refine j_iload_n (pc' := 107) (z := k) dX12_halvesOf_106 rfl rfl ?_
                      refine j_iald (pc' := 108) dX12_halvesOf_107 rfl (by omega) up_s (by omega) (by decide) ?_
                      refine j_iast (pc' := 109) dX12_halvesOf_108 rfl (by omega) up_s (by omega) (by decide) ?_
                      refine j_w (w' := up w 59 (eI 128 (upi Y k (Y k)))) (by funext j9; simp only [up]; (repeat' split) <;> first | rfl | (exfalso; omega)) ?_
                      refine j_iinc (pc' := 112) (z := m) (L' := [some (aR 53), some (aI x), some (aI k), some (aI (m + 1)), some (aI (Y m + Y (andn k m) + wts D n k))]) dX12_halvesOf_109 rfl (by decide) rfl rfl rfl ?_
                      refine j_goto (pc' := 40) dX12_halvesOf_112 (by decide) ?_
                      refine j_forget 4 (L' := [some (aR 53), some (aI x), some (aI k), some (aI (m + 1)), none]) rfl ?_
                      exact ih40 _ (by omega) (m + 1) (upi Y k (Y k)) (by omega) (by intro j j1 j2 j3; exact Gd_congr (hY j j1 j2 j3) (by omega) (fun i i1 i2 => (upi_n (by omega)).symm)) (by exact Cu_step hB (by omega) (by omega) hCu h50 hg1 hg2 (by first | rw [if_pos (by omega)] | rw [if_neg (by omega)])) rfl
                    · refine j_iload (pc' := 99) (z := (Y m + Y (andn k m) + wts D n k)) dX12_halvesOf_97 rfl rfl ?_
                      refine j_goto (pc' := 108) dX12_halvesOf_99 (by decide) ?_
                      refine j_iast (pc' := 109) dX12_halvesOf_108 rfl (by omega) up_s (by omega) (by decide) ?_
                      refine j_w (w' := up w 59 (eI 128 (upi Y k (Y m + Y (andn k m) + wts D n k)))) (by funext j9; simp only [up]; (repeat' split) <;> first | rfl | (exfalso; omega)) ?_
                      refine j_iinc (pc' := 112) (z := m) (L' := [some (aR 53), some (aI x), some (aI k), some (aI (m + 1)), some (aI (Y m + Y (andn k m) + wts D n k))]) dX12_halvesOf_109 rfl (by decide) rfl rfl rfl ?_
                      refine j_goto (pc' := 40) dX12_halvesOf_112 (by decide) ?_
                      refine j_forget 4 (L' := [some (aR 53), some (aI x), some (aI k), some (aI (m + 1)), none]) rfl ?_
                      exact ih40 _ (by omega) (m + 1) (upi Y k (Y m + Y (andn k m) + wts D n k)) (by omega) (by intro j j1 j2 j3; exact Gd_congr (hY j j1 j2 j3) (by omega) (fun i i1 i2 => (upi_n (by omega)).symm)) (by exact Cu_step hB (by omega) (by omega) hCu h50 hg1 hg2 (by first | rw [if_pos (by omega)] | rw [if_neg (by omega)])) rfl
                  · refine j_goto (pc' := 109) dX12_halvesOf_53 (by decide) ?_
                    refine j_iinc (pc' := 112) (z := m) (L' := [some (aR 53), some (aI x), some (aI k), some (aI (m + 1)), none]) dX12_halvesOf_109 rfl (by decide) rfl rfl rfl ?_
                    refine j_goto (pc' := 40) dX12_halvesOf_112 (by decide) ?_
                    exact ih40 _ (by omega) (m + 1) Y (by omega) (by exact hY) (by exact Cu_skip hCu h50) rfl
            exact lp40 _ 1 (upi X k 1000000000) (by omega) (by intro j j1 j2 j3; exact Gd_congr (hG j j1 j2 j3) (by omega) (fun i i1 i2 => (upi_n (by omega)).symm)) (by exact Cu_beg (by omega) (by omega) (by rw [upi_s]; first | rw [if_pos (by omega)] | rw [if_neg (by omega)])) rfl
          · refine j_iconst (pc' := 32) dX12_halvesOf_31 rfl ?_
            refine j_goto (pc' := 37) dX12_halvesOf_32 (by decide) ?_
            refine j_iast (pc' := 38) dX12_halvesOf_37 rfl (by omega) up_s (by omega) (by decide) ?_
            refine j_w (w' := up w 59 (eI 128 (upi X k 0))) (by funext j9; simp only [up]; (repeat' split) <;> first | rfl | (exfalso; omega)) ?_
            refine j_iconst (pc' := 39) dX12_halvesOf_38 rfl ?_
            refine j_istore_n (pc' := 40) (L' := [some (aR 53), some (aI x), some (aI k), some (aI 1), none]) dX12_halvesOf_39 rfl (by decide) rfl ?_
            have lp40 : ∀ (k9 : Nat) (m : Int) (Y : Int → Int), (1 ≤ m ∧ m ≤ k) → (∀ j, 1 ≤ j → j < k → andn j x = 0 → Gd D n Y j) → (Cu D n Y k m) → ((k - m).toNat) = k9 → J l m_Mod_halvesOf ad G [] false (jZ ad G false 68 m_Mod_halvesOf.2.2.2.2.cells m_Mod_halvesOf.2.2.2.2.slots (fun r w9 => r = some (aI (halV D n x)) ∧ ∃ Q9, w9 = up w 59 (eI 128 Q9))) 68 0 0 40 [some (aR 53), some (aI x), some (aI k), some (aI m), none] [] (up w 59 (eI 128 Y)) := by
              intro k9
              induction k9 using Nat.strongRecOn with
              | _ k9 ih40 =>
                intro m Y hm hY hCu hk40
                refine j_iload_n (pc' := 41) (z := m) dX12_halvesOf_40 rfl rfl ?_
                refine j_iload_n (pc' := 42) (z := k) dX12_halvesOf_41 rfl rfl ?_
                refine j_icmp_ge (tgt := 115) (pc' := 45) dX12_halvesOf_42 (by decide) rfl (by omega) (by omega) (fun h42 => ?_) (fun h42 => ?_)
                · refine j_iinc (pc' := 118) (z := k) (L' := [some (aR 53), some (aI x), some (aI (k + 1)), some (aI m), none]) dX12_halvesOf_115 rfl (by decide) rfl rfl rfl ?_
                  refine j_goto (pc' := 2) dX12_halvesOf_118 (by decide) ?_
                  refine j_forget 3 (L' := [some (aR 53), some (aI x), some (aI (k + 1)), none, none]) rfl ?_
                  exact ih2 _ (by omega) (k + 1) Y (by omega) (by intro j j1 j2 j3; by_cases jk : j = k; (subst jk; exact Cu_end (by omega) (by rw [show m = j by omega] at hCu; exact hCu)); (exact hY j j1 (by omega) j3)) rfl
                · have haml := andn_le (a := m) (b := k) (by omega)
                  have hcb := Cu_bd (by omega) hCu
                  refine j_iload_n (pc' := 46) (z := m) dX12_halvesOf_45 rfl rfl ?_
                  refine j_iload_n (pc' := 47) (z := k) dX12_halvesOf_46 rfl rfl ?_
                  refine j_iconst (pc' := 48) dX12_halvesOf_47 rfl ?_
                  refine j_inot (pc' := 49) dX12_halvesOf_48 rfl ?_
                  refine j_iandn (pc' := 50) (a := m) (b := k) dX12_halvesOf_49 rfl (by omega) (by omega) ?_
                  refine j_if_eq (tgt := 56) (pc' := 53) dX12_halvesOf_50 (by decide) rfl (by omega) (fun h50 => ?_) (fun h50 => ?_)
                  · have hadd := andn_add (a := m) (k := k) (by omega) (by omega) h50
                    have hsub := andn_sub (a := m) (k := k) (by omega) (by omega)
                    have hg1 := hY m (by omega) (by omega) (sub_tr (by omega) (by omega) (by omega) h50 h12)
                    have hg2 := hY (andn k m) (by omega) (by omega) (sub_tr (by omega) (by omega) (by omega) hsub h12)
                    have hb1 := hg1.1
                    have hb2 := hg2.1
                    have hwb := wts_bd (set := k) hB
                    refine j_aload_n (pc' := 57) (z := 53) dX12_halvesOf_56 rfl rfl ?_
                    refine j_get (pc' := 60) (v := aR 59) dX12_halvesOf_57 rfl f_Mod_25 (by omega) ((up_n (by omega)).trans hO) rfl ?_
                    refine j_iload_n (pc' := 61) (z := m) dX12_halvesOf_60 rfl rfl ?_
                    refine j_iald (pc' := 62) dX12_halvesOf_61 rfl (by omega) up_s (by omega) (by decide) ?_
                    refine j_aload_n (pc' := 63) (z := 53) dX12_halvesOf_62 rfl rfl ?_
                    refine j_get (pc' := 66) (v := aR 59) dX12_halvesOf_63 rfl f_Mod_25 (by omega) ((up_n (by omega)).trans hO) rfl ?_
                    refine j_iload_n (pc' := 67) (z := k) dX12_halvesOf_66 rfl rfl ?_
                    refine j_iload_n (pc' := 68) (z := m) dX12_halvesOf_67 rfl rfl ?_
                    refine j_iconst (pc' := 69) dX12_halvesOf_68 rfl ?_
                    refine j_inot (pc' := 70) dX12_halvesOf_69 rfl ?_
                    refine j_iandn (pc' := 71) (a := k) (b := m) dX12_halvesOf_70 rfl (by omega) (by omega) ?_
                    refine j_iald (pc' := 72) dX12_halvesOf_71 rfl (by omega) up_s (by omega) (by decide) ?_
                    refine j_iadd (pc' := 73) dX12_halvesOf_72 rfl ?_
                    refine j_aload_n (pc' := 74) (z := 53) dX12_halvesOf_73 rfl rfl ?_
                    refine j_iload_n (pc' := 75) (z := k) dX12_halvesOf_74 rfl rfl ?_
                    refine j_callV (pc' := 78) (as := [aI k]) (rest := [aI ((Y m) + (Y (andn k m)))]) dX12_halvesOf_75 rfl s_Mod_166 (c_Mod_weightOf hT.ha.1 hB hsh (by omega)) (by omega) ((up_n (by omega)).trans hO) rfl rfl rfl rfl (jdet (st' := [aI (wts D n k), aI ((Y m) + (Y (andn k m)))]) rfl ?_)
                    refine j_iadd (pc' := 79) dX12_halvesOf_78 rfl ?_
                    refine j_istore (pc' := 81) (L' := [some (aR 53), some (aI x), some (aI k), some (aI m), some (aI (Y m + Y (andn k m) + wts D n k))]) dX12_halvesOf_79 rfl (by decide) rfl ?_
                    refine j_aload_n (pc' := 82) (z := 53) dX12_halvesOf_81 rfl rfl ?_
                    refine j_get (pc' := 85) (v := aR 59) dX12_halvesOf_82 rfl f_Mod_25 (by omega) ((up_n (by omega)).trans hO) rfl ?_
                    refine j_iload_n (pc' := 86) (z := k) dX12_halvesOf_85 rfl rfl ?_
                    refine j_iload (pc' := 88) (z := (Y m + Y (andn k m) + wts D n k)) dX12_halvesOf_86 rfl rfl ?_
                    refine j_aload_n (pc' := 89) (z := 53) dX12_halvesOf_88 rfl rfl ?_
                    refine j_get (pc' := 92) (v := aR 59) dX12_halvesOf_89 rfl f_Mod_25 (by omega) ((up_n (by omega)).trans hO) rfl ?_
                    refine j_iload_n (pc' := 93) (z := k) dX12_halvesOf_92 rfl rfl ?_
                    refine j_iald (pc' := 94) dX12_halvesOf_93 rfl (by omega) up_s (by omega) (by decide) ?_
                    refine j_icmp_ge (tgt := 102) (pc' := 97) dX12_halvesOf_94 (by decide) rfl (by omega) (by omega) (fun h94 => ?_) (fun h94 => ?_)
                    · refine j_aload_n (pc' := 103) (z := 53) dX12_halvesOf_102 rfl rfl ?_
                      refine j_get (pc' := 106) (v := aR 59) dX12_halvesOf_103 rfl f_Mod_25 (by omega) ((up_n (by omega)).trans hO) rfl ?_
                      refine j_iload_n (pc' := 107) (z := k) dX12_halvesOf_106 rfl rfl ?_
                      refine j_iald (pc' := 108) dX12_halvesOf_107 rfl (by omega) up_s (by omega) (by decide) ?_
                      refine j_iast (pc' := 109) dX12_halvesOf_108 rfl (by omega) up_s (by omega) (by decide) ?_
                      refine j_w (w' := up w 59 (eI 128 (upi Y k (Y k)))) (by funext j9; simp only [up]; (repeat' split) <;> first | rfl | (exfalso; omega)) ?_
                      refine j_iinc (pc' := 112) (z := m) (L' := [some (aR 53), some (aI x), some (aI k), some (aI (m + 1)), some (aI (Y m + Y (andn k m) + wts D n k))]) dX12_halvesOf_109 rfl (by decide) rfl rfl rfl ?_
                      refine j_goto (pc' := 40) dX12_halvesOf_112 (by decide) ?_
                      refine j_forget 4 (L' := [some (aR 53), some (aI x), some (aI k), some (aI (m + 1)), none]) rfl ?_
                      exact ih40 _ (by omega) (m + 1) (upi Y k (Y k)) (by omega) (by intro j j1 j2 j3; exact Gd_congr (hY j j1 j2 j3) (by omega) (fun i i1 i2 => (upi_n (by omega)).symm)) (by exact Cu_step hB (by omega) (by omega) hCu h50 hg1 hg2 (by first | rw [if_pos (by omega)] | rw [if_neg (by omega)])) rfl
                    · refine j_iload (pc' := 99) (z := (Y m + Y (andn k m) + wts D n k)) dX12_halvesOf_97 rfl rfl ?_
                      refine j_goto (pc' := 108) dX12_halvesOf_99 (by decide) ?_
                      refine j_iast (pc' := 109) dX12_halvesOf_108 rfl (by omega) up_s (by omega) (by decide) ?_
                      refine j_w (w' := up w 59 (eI 128 (upi Y k (Y m + Y (andn k m) + wts D n k)))) (by funext j9; simp only [up]; (repeat' split) <;> first | rfl | (exfalso; omega)) ?_
                      refine j_iinc (pc' := 112) (z := m) (L' := [some (aR 53), some (aI x), some (aI k), some (aI (m + 1)), some (aI (Y m + Y (andn k m) + wts D n k))]) dX12_halvesOf_109 rfl (by decide) rfl rfl rfl ?_
                      refine j_goto (pc' := 40) dX12_halvesOf_112 (by decide) ?_
                      refine j_forget 4 (L' := [some (aR 53), some (aI x), some (aI k), some (aI (m + 1)), none]) rfl ?_
                      exact ih40 _ (by omega) (m + 1) (upi Y k (Y m + Y (andn k m) + wts D n k)) (by omega) (by intro j j1 j2 j3; exact Gd_congr (hY j j1 j2 j3) (by omega) (fun i i1 i2 => (upi_n (by omega)).symm)) (by exact Cu_step hB (by omega) (by omega) hCu h50 hg1 hg2 (by first | rw [if_pos (by omega)] | rw [if_neg (by omega)])) rfl
                  · refine j_goto (pc' := 109) dX12_halvesOf_53 (by decide) ?_
                    refine j_iinc (pc' := 112) (z := m) (L' := [some (aR 53), some (aI x), some (aI k), some (aI (m + 1)), none]) dX12_halvesOf_109 rfl (by decide) rfl rfl rfl ?_
                    refine j_goto (pc' := 40) dX12_halvesOf_112 (by decide) ?_
                    exact ih40 _ (by omega) (m + 1) Y (by omega) (by exact hY) (by exact Cu_skip hCu h50) rfl
            exact lp40 _ 1 (upi X k 0) (by omega) (by intro j j1 j2 j3; exact Gd_congr (hG j j1 j2 j3) (by omega) (fun i i1 i2 => (upi_n (by omega)).symm)) (by exact Cu_beg (by omega) (by omega) (by rw [upi_s]; first | rw [if_pos (by omega)] | rw [if_neg (by omega)])) rfl
        · refine j_goto (pc' := 115) dX12_halvesOf_15 (by decide) ?_
          refine j_iinc (pc' := 118) (z := k) (L' := [some (aR 53), some (aI x), some (aI (k + 1)), none, none]) dX12_halvesOf_115 rfl (by decide) rfl rfl rfl ?_
          refine j_goto (pc' := 2) dX12_halvesOf_118 (by decide) ?_
          exact ih2 _ (by omega) (k + 1) X (by omega) (by intro j j1 j2 j3; by_cases jk : j = k; (subst jk; exact absurd j3 h12); (exact hG j j1 (by omega) j3)) rfl
  refine j_w (w' := up w 59 (eI 128 ha)) (by funext j9; simp only [up]; (repeat' split) <;> first | rfl | (subst_vars; assumption) | (subst_vars; symm; assumption) | (exfalso; omega)) ?_
  exact lp2 _ 1 ha (by omega) (by intro j j1 j2; omega) rfl
set_option maxRecDepth 100000 in
set_option maxHeartbeats 4000000 in
theorem c_Mod_oneByOneOf {l : Launch} {w : AW} {D Di : Int → Int → Int} {n mi hi ni mj : Int} {sh E : Int → Int → Int} {x : Int} (hM : Mod w D n mi hi Di ni mj sh E) (hB : CarOK D n mi) (hsh : ShOK sh E) (hset : 1 ≤ x ∧ x < 2 ^ n.toNat) : Call l m_Mod_oneByOneOf false 68 68 [aR 53, aI x] w (rt (some (aI (oboV D n x))) w) := by
  have hT := MS.rf hM
  have hM0 := hM
  obtain ⟨⟨pc, ra, re, fm, se, th, hO⟩, ⟨S, hS, hR⟩, ⟨Sm, hSm⟩, ⟨Si, hSi, hRi⟩, ⟨Sw, hSw⟩, ⟨nu, hnu⟩, ⟨ha, hha⟩, ⟨fg, hfg⟩, ke, kk, kf, so, si, el, ⟨hke, hkk, hkf, hso, hsi, hel⟩, hRel⟩ := hM
  obtain ⟨hn, hD, hs0, hs1, hs2, hs3⟩ := id hB
  have hpw := pow7 (n := n) (by omega)
  obtain ⟨ho1, ho2, ho3, ho4⟩ := obo_bd hB hset
  refine Call.of (L := [some (aR 53), some (aI x), none, none, none, none, none]) rfl (Nat.le_of_ble_eq_true rfl) rfl (fun G ad => ?_)
  refine j_iload_n (pc' := 1) (z := x) dX12_oneByOneOf_0 rfl rfl ?_
  refine j_istore_n (pc' := 2) (L' := [some (aR 53), some (aI x), some (aI x), none, none, none, none]) dX12_oneByOneOf_1 rfl (by decide) rfl ?_
  refine j_iconst (pc' := 3) dX12_oneByOneOf_2 rfl ?_
  refine j_istore_n (pc' := 4) (L' := [some (aR 53), some (aI x), some (aI x), some (aI 0), none, none, none]) dX12_oneByOneOf_3 rfl (by decide) rfl ?_
  refine j_iconst (pc' := 5) dX12_oneByOneOf_4 rfl ?_
  refine j_istore (pc' := 7) (L' := [some (aR 53), some (aI x), some (aI x), some (aI 0), some (aI 1), none, none]) dX12_oneByOneOf_5 rfl (by decide) rfl ?_
  have lp7 : ∀ (k9 : Nat) (y : Int) (v : Int) (k : Int), (0 ≤ y ∧ y < 2 ^ n.toNat) → (y = 0 → v = oboV D n x) → (¬ y = 0 → ∀ c, OB ((wl D y n).length - 1) (wl D y n) c → oboV D n x = v + (k - 1) * wts D n y + c) → (y.toNat) = k9 → J l m_Mod_oneByOneOf ad G [] false (jZ ad G false 68 m_Mod_oneByOneOf.2.2.2.2.cells m_Mod_oneByOneOf.2.2.2.2.slots (rt (some (aI (oboV D n x))) w)) 68 0 0 7 [some (aR 53), some (aI x), some (aI y), some (aI v), some (aI k), none, none] [] w := by
    intro k9
    induction k9 using Nat.strongRecOn with
    | _ k9 ih7 =>
      intro y v k hy hH1 hH2 hk7
      refine j_iload_n (pc' := 8) (z := y) dX12_oneByOneOf_7 rfl rfl ?_
      refine j_if_eq (tgt := 122) (pc' := 11) dX12_oneByOneOf_8 (by decide) rfl (by omega) (fun h8 => ?_) (fun h8 => ?_)
      · refine j_iload_n (pc' := 123) (z := v) dX12_oneByOneOf_122 rfl rfl ?_
        exact j_iret dX12_oneByOneOf_123 rfl (rt_eq (by exact hH1 h8))
      · refine j_bipush (pc' := 13) dX12_oneByOneOf_11 rfl (by decide) ?_
        refine j_istore (pc' := 15) (L' := [some (aR 53), some (aI x), some (aI y), some (aI v), some (aI k), some (aI (-4)), none]) dX12_oneByOneOf_13 rfl (by decide) rfl ?_
        refine j_iconst (pc' := 16) dX12_oneByOneOf_15 rfl ?_
        refine j_istore (pc' := 18) (L' := [some (aR 53), some (aI x), some (aI y), some (aI v), some (aI k), some (aI (-4)), some (aI 0)]) dX12_oneByOneOf_16 rfl (by decide) rfl ?_
        have lp18 : ∀ (k9 : Nat) (r : Int) (i : Int), (0 ≤ i ∧ i ≤ n) → (((r = -4 ∧ ∀ q, 0 ≤ q → q < i → ¬ bt y q = 1) ∨ ((0 ≤ r ∧ r < i) ∧ bt y r = 1 ∧ ∀ q, 0 ≤ q → q < i → bt y q = 1 → D 3 q ≤ D 3 r))) → ((n - i).toNat) = k9 → J l m_Mod_oneByOneOf ad G [] false (jZ ad G false 68 m_Mod_oneByOneOf.2.2.2.2.cells m_Mod_oneByOneOf.2.2.2.2.slots (rt (some (aI (oboV D n x))) w)) 68 0 0 18 [some (aR 53), some (aI x), some (aI y), some (aI v), some (aI k), some (aI r), some (aI i)] [] w := by
          intro k9
          induction k9 using Nat.strongRecOn with
          | _ k9 ih18 =>
            intro r i hi9 hr hk18
            refine j_iload (pc' := 20) (z := i) dX12_oneByOneOf_18 rfl rfl ?_
            refine j_aload_n (pc' := 21) (z := 53) dX12_oneByOneOf_20 rfl rfl ?_
            refine j_get (pc' := 24) (v := aR 54) dX12_oneByOneOf_21 rfl f_Mod_9 (by omega) hO rfl ?_
            refine j_iconst (pc' := 25) dX12_oneByOneOf_24 rfl ?_
            refine j_iald (pc' := 26) dX12_oneByOneOf_25 rfl (by omega) hS (by omega) (by decide) ?_
            refine j_top (b := n) hR.pn ?_
            refine j_icmp_ge (tgt := 79) (pc' := 29) dX12_oneByOneOf_26 (by decide) rfl (by omega) (by omega) (fun h26 => ?_) (fun h26 => ?_)
            · obtain ⟨p0, p1, p2⟩ := bit_ex (set := y) (n := n) (by omega) (by omega)
              obtain ⟨hr1, hr2, hr3⟩ : (0 ≤ r ∧ r < n) ∧ bt y r = 1 ∧ ∀ q, 0 ≤ q → q < n → bt y q = 1 → D 3 q ≤ D 3 r := by
                have hin : i = n := by omega
                rw [hin] at hr
                rcases hr with ⟨_, q2⟩ | q
                · exact absurd p2 (q2 p0 p1.1 p1.2)
                · exact q
              have h6 := pw64 (p := r) (by omega)
              have hst := obo_st (v := v) (k := k) hB (by omega) hr1 hr2 hr3 (hH2 (by omega))
              have hal := andn_le (a := y) (b := 2 ^ r.toNat) (by omega)
              have hsub : andn (2 ^ r.toNat) y = 0 := sub_of (by omega) (by omega) (fun q q1 q2 q3 => by rw [(bt_pow hr1.1 q1).mp q3]; exact hr2)
              have hadd := andn_add (a := 2 ^ r.toNat) (k := y) (by omega) (by omega) hsub
              have hDr := hD r (by omega) (by omega)
              refine j_iload_n (pc' := 80) (z := y) dX12_oneByOneOf_79 rfl rfl ?_
              refine j_iconst (pc' := 81) dX12_oneByOneOf_80 rfl ?_
              refine j_iload (pc' := 83) (z := r) dX12_oneByOneOf_81 rfl rfl ?_
              refine j_ishl1 (pc' := 84) dX12_oneByOneOf_83 rfl (by omega) ?_
              refine j_iconst (pc' := 85) dX12_oneByOneOf_84 rfl ?_
              refine j_inot (pc' := 86) dX12_oneByOneOf_85 rfl ?_
              refine j_iandn (pc' := 87) (a := y) (b := (2 ^ (Int.toNat r))) dX12_oneByOneOf_86 rfl (by omega) (by omega) ?_
              refine j_istore_n (pc' := 88) (L' := [some (aR 53), some (aI x), some (aI (andn y (2 ^ (Int.toNat r)))), some (aI v), some (aI k), some (aI r), some (aI i)]) dX12_oneByOneOf_87 rfl (by decide) rfl ?_
              refine j_iload_n (pc' := 89) (z := v) dX12_oneByOneOf_88 rfl rfl ?_
              refine j_iload_n (pc' := 90) (z := (andn y (2 ^ (Int.toNat r)))) dX12_oneByOneOf_89 rfl rfl ?_
              refine j_if_ne (tgt := 100) (pc' := 93) dX12_oneByOneOf_90 (by decide) rfl (by omega) (fun h90 => ?_) (fun h90 => ?_)
              · refine j_iload (pc' := 102) (z := k) dX12_oneByOneOf_100 rfl rfl ?_
                refine j_aload_n (pc' := 103) (z := 53) dX12_oneByOneOf_102 rfl rfl ?_
                refine j_get (pc' := 106) (v := aR 54) dX12_oneByOneOf_103 rfl f_Mod_9 (by omega) hO rfl ?_
                refine j_iload (pc' := 108) (z := r) dX12_oneByOneOf_106 rfl rfl ?_
                refine j_iconst (pc' := 109) dX12_oneByOneOf_108 rfl ?_
                refine j_callS (pc' := 112) (as := [aI r, aI 3]) (rest := [aR 54, aI k, aI v]) dX12_oneByOneOf_109 rfl s_Mod_53 c_Mod_at rfl rfl rfl (jdet (st' := [aI (6 + 6 * r + 3), aR 54, aI k, aI v]) rfl ?_)
                refine j_iald (pc' := 113) dX12_oneByOneOf_112 rfl (by omega) hS (by omega) (by decide) ?_
                refine j_top (b := D 3 r) (hR.pj (j := 3) (p := r) (by omega) (by omega)) ?_
                refine j_imul (pc' := 114) dX12_oneByOneOf_113 rfl ?_
                refine j_iadd (pc' := 115) dX12_oneByOneOf_114 rfl ?_
                refine j_istore_n (pc' := 116) (L' := [some (aR 53), some (aI x), some (aI (andn y (2 ^ (Int.toNat r)))), some (aI (v + (k * (D 3 r)))), some (aI k), some (aI r), some (aI i)]) dX12_oneByOneOf_115 rfl (by decide) rfl ?_
                refine j_iinc (pc' := 119) (z := k) (L' := [some (aR 53), some (aI x), some (aI (andn y (2 ^ (Int.toNat r)))), some (aI (v + (k * (D 3 r)))), some (aI (k + 1)), some (aI r), some (aI i)]) dX12_oneByOneOf_116 rfl (by decide) rfl rfl rfl ?_
                refine j_goto (pc' := 7) dX12_oneByOneOf_119 (by decide) ?_
                refine j_forget 5 (L' := [some (aR 53), some (aI x), some (aI (andn y (2 ^ (Int.toNat r)))), some (aI (v + (k * (D 3 r)))), some (aI (k + 1)), none, some (aI i)]) rfl ?_
                refine j_forget 6 (L' := [some (aR 53), some (aI x), some (aI (andn y (2 ^ (Int.toNat r)))), some (aI (v + (k * (D 3 r)))), some (aI (k + 1)), none, none]) rfl ?_
                exact ih7 _ (by omega) (andn y (2 ^ (Int.toNat r))) (v + (k * (D 3 r))) (k + 1) (by omega) (by intro q; exact absurd q h90) (by intro q; exact hst.2 q) rfl
              · refine j_iload (pc' := 95) (z := k) dX12_oneByOneOf_93 rfl rfl ?_
                refine j_iconst (pc' := 96) dX12_oneByOneOf_95 rfl ?_
                refine j_isub (pc' := 97) dX12_oneByOneOf_96 rfl ?_
                refine j_goto (pc' := 102) dX12_oneByOneOf_97 (by decide) ?_
                refine j_aload_n (pc' := 103) (z := 53) dX12_oneByOneOf_102 rfl rfl ?_
                refine j_get (pc' := 106) (v := aR 54) dX12_oneByOneOf_103 rfl f_Mod_9 (by omega) hO rfl ?_
                refine j_iload (pc' := 108) (z := r) dX12_oneByOneOf_106 rfl rfl ?_
                refine j_iconst (pc' := 109) dX12_oneByOneOf_108 rfl ?_
                refine j_callS (pc' := 112) (as := [aI r, aI 3]) (rest := [aR 54, aI (k - 1), aI v]) dX12_oneByOneOf_109 rfl s_Mod_53 c_Mod_at rfl rfl rfl (jdet (st' := [aI (6 + 6 * r + 3), aR 54, aI (k - 1), aI v]) rfl ?_)
                refine j_iald (pc' := 113) dX12_oneByOneOf_112 rfl (by omega) hS (by omega) (by decide) ?_
                refine j_top (b := D 3 r) (hR.pj (j := 3) (p := r) (by omega) (by omega)) ?_
                refine j_imul (pc' := 114) dX12_oneByOneOf_113 rfl ?_
                refine j_iadd (pc' := 115) dX12_oneByOneOf_114 rfl ?_
                refine j_istore_n (pc' := 116) (L' := [some (aR 53), some (aI x), some (aI (andn y (2 ^ (Int.toNat r)))), some (aI (v + ((k - 1) * (D 3 r)))), some (aI k), some (aI r), some (aI i)]) dX12_oneByOneOf_115 rfl (by decide) rfl ?_
                refine j_iinc (pc' := 119) (z := k) (L' := [some (aR 53), some (aI x), some (aI (andn y (2 ^ (Int.toNat r)))), some (aI (v + ((k - 1) * (D 3 r)))), some (aI (k + 1)), some (aI r), some (aI i)]) dX12_oneByOneOf_116 rfl (by decide) rfl rfl rfl ?_
                refine j_goto (pc' := 7) dX12_oneByOneOf_119 (by decide) ?_
                refine j_forget 5 (L' := [some (aR 53), some (aI x), some (aI (andn y (2 ^ (Int.toNat r)))), some (aI (v + ((k - 1) * (D 3 r)))), some (aI (k + 1)), none, some (aI i)]) rfl ?_
                refine j_forget 6 (L' := [some (aR 53), some (aI x), some (aI (andn y (2 ^ (Int.toNat r)))), some (aI (v + ((k - 1) * (D 3 r)))), some (aI (k + 1)), none, none]) rfl ?_
                exact ih7 _ (by omega) (andn y (2 ^ (Int.toNat r))) (v + ((k - 1) * (D 3 r))) (k + 1) (by omega) (by intro _; exact hst.1 h90) (by intro q; exact absurd h90 q) rfl
            · have hbt : bt y i = y / 2 ^ (Int.toNat i) % 2 ^ 1 := rfl
              have hb01 := bt_01 (x := y) (p := i)
              have hDi := hD i (by omega) (by omega)
              have hr6 : r = -4 ∨ (0 ≤ r ∧ r < i) := by omega
              refine j_iload_n (pc' := 30) (z := y) dX12_oneByOneOf_29 rfl rfl ?_
              refine j_iload (pc' := 32) (z := i) dX12_oneByOneOf_30 rfl rfl ?_
              refine j_ishr (pc' := 33) dX12_oneByOneOf_32 rfl (by omega) (by omega) ?_
              refine j_iconst (pc' := 34) dX12_oneByOneOf_33 rfl ?_
              refine j_imask (pc' := 35) 1 dX12_oneByOneOf_34 rfl (by decide) rfl ?_
              refine j_iconst (pc' := 36) dX12_oneByOneOf_35 rfl ?_
              refine j_icmp_ne (tgt := 73) (pc' := 39) dX12_oneByOneOf_36 (by decide) rfl (by omega) (by omega) (fun h36 => ?_) (fun h36 => ?_)
              · refine j_iinc (pc' := 76) (z := i) (L' := [some (aR 53), some (aI x), some (aI y), some (aI v), some (aI k), some (aI r), some (aI (i + 1))]) dX12_oneByOneOf_73 rfl (by decide) rfl rfl rfl ?_
                refine j_goto (pc' := 18) dX12_oneByOneOf_76 (by decide) ?_
                exact ih18 _ (by omega) r (i + 1) (by omega) (by rcases hr with ⟨w1, w2⟩ | ⟨w1, w2, w3⟩; (left; refine ⟨w1, fun q q1 q2 => ?_⟩; by_cases qi : q = i; (subst qi; omega); (exact w2 q q1 (by omega))); (right; refine ⟨by omega, w2, fun q q1 q2 q3 => ?_⟩; by_cases qi : q = i; (subst qi; omega); (exact w3 q q1 (by omega) q3))) rfl
              · refine j_iload (pc' := 41) (z := r) dX12_oneByOneOf_39 rfl rfl ?_
                refine j_if_lt (tgt := 69) (pc' := 44) dX12_oneByOneOf_41 (by decide) rfl (by omega) (fun h41 => ?_) (fun h41 => ?_)
                · refine j_iload (pc' := 71) (z := i) dX12_oneByOneOf_69 rfl rfl ?_
                  refine j_istore (pc' := 73) (L' := [some (aR 53), some (aI x), some (aI y), some (aI v), some (aI k), some (aI i), some (aI i)]) dX12_oneByOneOf_71 rfl (by decide) rfl ?_
                  refine j_iinc (pc' := 76) (z := i) (L' := [some (aR 53), some (aI x), some (aI y), some (aI v), some (aI k), some (aI i), some (aI (i + 1))]) dX12_oneByOneOf_73 rfl (by decide) rfl rfl rfl ?_
                  refine j_goto (pc' := 18) dX12_oneByOneOf_76 (by decide) ?_
                  exact ih18 _ (by omega) i (i + 1) (by omega) (by right; refine ⟨by omega, by omega, fun q q1 q2 q3 => ?_⟩; by_cases qi : q = i; (subst qi; omega); (rcases hr with ⟨_, w2⟩ | ⟨w1, w2, w3⟩; (exact absurd q3 (w2 q q1 (by omega))); (have := w3 q q1 (by omega) q3; omega))) rfl
                · refine j_aload_n (pc' := 45) (z := 53) dX12_oneByOneOf_44 rfl rfl ?_
                  refine j_get (pc' := 48) (v := aR 54) dX12_oneByOneOf_45 rfl f_Mod_9 (by omega) hO rfl ?_
                  refine j_iload (pc' := 50) (z := i) dX12_oneByOneOf_48 rfl rfl ?_
                  refine j_iconst (pc' := 51) dX12_oneByOneOf_50 rfl ?_
                  refine j_callS (pc' := 54) (as := [aI i, aI 3]) (rest := [aR 54]) dX12_oneByOneOf_51 rfl s_Mod_53 c_Mod_at rfl rfl rfl (jdet (st' := [aI (6 + 6 * i + 3), aR 54]) rfl ?_)
                  refine j_iald (pc' := 55) dX12_oneByOneOf_54 rfl (by omega) hS (by omega) (by decide) ?_
                  refine j_top (b := D 3 i) (hR.pj (j := 3) (p := i) (by omega) (by omega)) ?_
                  have hDr := hD r (by omega) (by omega)
                  refine j_aload_n (pc' := 56) (z := 53) dX12_oneByOneOf_55 rfl rfl ?_
                  refine j_get (pc' := 59) (v := aR 54) dX12_oneByOneOf_56 rfl f_Mod_9 (by omega) hO rfl ?_
                  refine j_iload (pc' := 61) (z := r) dX12_oneByOneOf_59 rfl rfl ?_
                  refine j_iconst (pc' := 62) dX12_oneByOneOf_61 rfl ?_
                  refine j_callS (pc' := 65) (as := [aI r, aI 3]) (rest := [aR 54, aI (D 3 i)]) dX12_oneByOneOf_62 rfl s_Mod_53 c_Mod_at rfl rfl rfl (jdet (st' := [aI (6 + 6 * r + 3), aR 54, aI (D 3 i)]) rfl ?_)
                  refine j_iald (pc' := 66) dX12_oneByOneOf_65 rfl (by omega) hS (by omega) (by decide) ?_
                  refine j_top (b := D 3 r) (hR.pj (j := 3) (p := r) (by omega) (by omega)) ?_
                  refine j_icmp_le (tgt := 73) (pc' := 69) dX12_oneByOneOf_66 (by decide) rfl (by omega) (by omega) (fun h66 => ?_) (fun h66 => ?_)
                  · refine j_iinc (pc' := 76) (z := i) (L' := [some (aR 53), some (aI x), some (aI y), some (aI v), some (aI k), some (aI r), some (aI (i + 1))]) dX12_oneByOneOf_73 rfl (by decide) rfl rfl rfl ?_
                    refine j_goto (pc' := 18) dX12_oneByOneOf_76 (by decide) ?_
                    exact ih18 _ (by omega) r (i + 1) (by omega) (by rcases hr with ⟨w1, w2⟩ | ⟨w1, w2, w3⟩; (left; refine ⟨w1, fun q q1 q2 => ?_⟩; by_cases qi : q = i; (subst qi; omega); (exact w2 q q1 (by omega))); (right; refine ⟨by omega, w2, fun q q1 q2 q3 => ?_⟩; by_cases qi : q = i; (subst qi; omega); (exact w3 q q1 (by omega) q3))) rfl
                  · refine j_iload (pc' := 71) (z := i) dX12_oneByOneOf_69 rfl rfl ?_
                    refine j_istore (pc' := 73) (L' := [some (aR 53), some (aI x), some (aI y), some (aI v), some (aI k), some (aI i), some (aI i)]) dX12_oneByOneOf_71 rfl (by decide) rfl ?_
                    refine j_iinc (pc' := 76) (z := i) (L' := [some (aR 53), some (aI x), some (aI y), some (aI v), some (aI k), some (aI i), some (aI (i + 1))]) dX12_oneByOneOf_73 rfl (by decide) rfl rfl rfl ?_
                    refine j_goto (pc' := 18) dX12_oneByOneOf_76 (by decide) ?_
                    exact ih18 _ (by omega) i (i + 1) (by omega) (by right; refine ⟨by omega, by omega, fun q q1 q2 q3 => ?_⟩; by_cases qi : q = i; (subst qi; omega); (rcases hr with ⟨_, w2⟩ | ⟨w1, w2, w3⟩; (exact absurd q3 (w2 q q1 (by omega))); (have := w3 q q1 (by omega) q3; omega))) rfl
        exact lp18 _ (-4) 0 (by omega) (by left; exact ⟨rfl, fun q q1 q2 => by omega⟩) rfl
  exact lp7 _ x 0 1 (by omega) (by intro q; omega) (by intro _ c hc; rw [oboV_eq hc]; omega) rfl
set_option maxRecDepth 100000 in
set_option maxHeartbeats 4000000 in
theorem c_Mod_halves {l : Launch} {w : AW} {D Di : Int → Int → Int} {n mi hi ni mj : Int} {sh E : Int → Int → Int} {x p : Int} (hM : Mod w D n mi hi Di ni mj sh E) (hB : CarOK D n mi) (hI : CarOK Di ni mj) (hhi : hi = 0 ∨ hi = 1) (hsh : ShOK sh E) (hwd : WdOK D) (hx : inI x) (hp : inI p) : Call l m_Mod_halves false 68 68 [aR 53, aI x, aI p] w (jML w (halvesA D n x p) D n mi hi Di ni mj sh E) := by
  have hT := MS.rf hM
  have hM0 := hM
  obtain ⟨⟨pc, ra, re, fm, se, th, hO⟩, ⟨S, hS, hR⟩, ⟨Sm, hSm⟩, ⟨Si, hSi, hRi⟩, ⟨Sw, hSw⟩, ⟨nu, hnu⟩, ⟨ha, hha⟩, ⟨fg, hfg⟩, ke, kk, kf, so, si, el, ⟨hke, hkk, hkf, hso, hsi, hel⟩, hRel⟩ := hM
  obtain ⟨hn, hD, hs0, hs1, hs2, hs3⟩ := id hB
  refine Call.of (L := [some (aR 53), some (aI x), some (aI p)]) rfl (Nat.le_of_ble_eq_true rfl) rfl (fun G ad => ?_)
  refine j_aload_n (pc' := 1) (z := 53) dX12_halves_0 rfl rfl ?_
  refine j_iload_n (pc' := 2) (z := x) dX12_halves_1 rfl rfl ?_
  refine j_callV (pc' := 5) (as := [aI x]) (rest := []) dX12_halves_2 rfl s_Mod_173 (c_Mod_isSet hT.1 hB hsh (by omega)) (by omega) hO rfl rfl rfl rfl (jdet (st' := [aB (1 ≤ x ∧ x < 2 ^ (Int.toNat n))]) rfl ?_)
  refine j_ifb_eq (tgt := 36) (pc' := 8) dX12_halves_5 (by decide) rfl (fun h5 => ?_) (fun h5 => ?_)
  · refine j_ldc2 (pc' := 39) (n := -1000000001) dX12_halves_36 rfl k_Mod_183 (by decide) ?_
    exact j_lret dX12_halves_39 rfl (jML_of (by unfold halvesA; first | rw [if_pos (by omega)] | rw [if_neg (by omega)]) hT)
  · refine j_iload_n (pc' := 9) (z := p) dX12_halves_8 rfl rfl ?_
    refine j_iconst (pc' := 10) dX12_halves_9 rfl ?_
    refine j_iconst (pc' := 11) dX12_halves_10 rfl ?_
    refine j_callS (pc' := 14) (as := [aI p, aI 0, aI 1]) (rest := []) dX12_halves_11 rfl s_Mod_49 (c_Mod_isIn (by omega) (by omega) (by omega)) rfl rfl rfl (jdet (st' := [aB (0 ≤ p ∧ p ≤ 1)]) rfl ?_)
    refine j_ifb_eq (tgt := 36) (pc' := 17) dX12_halves_14 (by decide) rfl (fun h14 => ?_) (fun h14 => ?_)
    · refine j_ldc2 (pc' := 39) (n := -1000000001) dX12_halves_36 rfl k_Mod_183 (by decide) ?_
      exact j_lret dX12_halves_39 rfl (jML_of (by unfold halvesA; first | rw [if_pos (by omega)] | rw [if_neg (by omega)]) hT)
    · have hpw := pow7 (n := n) (by omega)
      have hws := wts_bd (set := x) hB
      obtain ⟨ho2, ho3, ho4⟩ := hal_bd hB (set := x) (by omega)
      refine j_aload_n (pc' := 18) (z := 53) dX12_halves_17 rfl rfl ?_
      refine j_iload_n (pc' := 19) (z := x) dX12_halves_18 rfl rfl ?_
      refine j_callV (pc' := 22) (as := [aI x]) (rest := []) dX12_halves_19 rfl s_Mod_176 (c_Mod_halvesOf hT.1 hB hsh (by omega)) (by omega) hO rfl rfl rfl rfl (fun r9 w9 h9 => ?_)
      obtain ⟨rfl, Q1, rfl⟩ := h9
      refine j_st (st' := [aI (halV D n x)]) rfl ?_
      refine j_i2l (pc' := 23) dX12_halves_22 rfl (by omega) ?_
      refine j_aload_n (pc' := 24) (z := 53) dX12_halves_23 rfl rfl ?_
      refine j_iload_n (pc' := 25) (z := x) dX12_halves_24 rfl rfl ?_
      refine j_callV (pc' := 28) (as := [aI x]) (rest := [aL (halV D n x)]) dX12_halves_25 rfl s_Mod_166 (c_Mod_weightOf hT.ha.1 hB hsh (by omega)) (by omega) ((up_n (by omega)).trans hO) rfl rfl rfl rfl (jdet (st' := [aI (wts D n x), aL (halV D n x)]) rfl ?_)
      refine j_i2l (pc' := 29) dX12_halves_28 rfl (by omega) ?_
      refine j_iload_n (pc' := 30) (z := p) dX12_halves_29 rfl rfl ?_
      refine j_callS (pc' := 33) (as := [aL (halV D n x), aL (wts D n x), aI p]) (rest := []) dX12_halves_30 rfl s_Mod_179 (c_Mod_partOf (by omega) (by omega) (by omega) ho4) rfl rfl rfl (jdet (st' := [aL (lowT (halV D n x) (wts D n x) p)]) rfl ?_)
      refine j_goto (pc' := 39) dX12_halves_33 (by decide) ?_
      exact j_lret dX12_halves_39 rfl (jML_of (by unfold halvesA; first | rw [if_pos (by omega)] | rw [if_neg (by omega)]) hT.ha)
set_option maxRecDepth 100000 in
set_option maxHeartbeats 4000000 in
theorem c_Mod_oneByOne {l : Launch} {w : AW} {D Di : Int → Int → Int} {n mi hi ni mj : Int} {sh E : Int → Int → Int} {x p : Int} (hM : Mod w D n mi hi Di ni mj sh E) (hB : CarOK D n mi) (hI : CarOK Di ni mj) (hhi : hi = 0 ∨ hi = 1) (hsh : ShOK sh E) (hwd : WdOK D) (hx : inI x) (hp : inI p) : Call l m_Mod_oneByOne false 68 68 [aR 53, aI x, aI p] w (jML w (oneA D n x p) D n mi hi Di ni mj sh E) := by
  have hT := MS.rf hM
  have hM0 := hM
  obtain ⟨⟨pc, ra, re, fm, se, th, hO⟩, ⟨S, hS, hR⟩, ⟨Sm, hSm⟩, ⟨Si, hSi, hRi⟩, ⟨Sw, hSw⟩, ⟨nu, hnu⟩, ⟨ha, hha⟩, ⟨fg, hfg⟩, ke, kk, kf, so, si, el, ⟨hke, hkk, hkf, hso, hsi, hel⟩, hRel⟩ := hM
  obtain ⟨hn, hD, hs0, hs1, hs2, hs3⟩ := id hB
  refine Call.of (L := [some (aR 53), some (aI x), some (aI p)]) rfl (Nat.le_of_ble_eq_true rfl) rfl (fun G ad => ?_)
  refine j_aload_n (pc' := 1) (z := 53) dX12_oneByOne_0 rfl rfl ?_
  refine j_iload_n (pc' := 2) (z := x) dX12_oneByOne_1 rfl rfl ?_
  refine j_callV (pc' := 5) (as := [aI x]) (rest := []) dX12_oneByOne_2 rfl s_Mod_173 (c_Mod_isSet hT.1 hB hsh (by omega)) (by omega) hO rfl rfl rfl rfl (jdet (st' := [aB (1 ≤ x ∧ x < 2 ^ (Int.toNat n))]) rfl ?_)
  refine j_ifb_eq (tgt := 36) (pc' := 8) dX12_oneByOne_5 (by decide) rfl (fun h5 => ?_) (fun h5 => ?_)
  · refine j_ldc2 (pc' := 39) (n := -1000000001) dX12_oneByOne_36 rfl k_Mod_183 (by decide) ?_
    exact j_lret dX12_oneByOne_39 rfl (jML_of (by unfold oneA; first | rw [if_pos (by omega)] | rw [if_neg (by omega)]) hT)
  · refine j_iload_n (pc' := 9) (z := p) dX12_oneByOne_8 rfl rfl ?_
    refine j_iconst (pc' := 10) dX12_oneByOne_9 rfl ?_
    refine j_iconst (pc' := 11) dX12_oneByOne_10 rfl ?_
    refine j_callS (pc' := 14) (as := [aI p, aI 0, aI 1]) (rest := []) dX12_oneByOne_11 rfl s_Mod_49 (c_Mod_isIn (by omega) (by omega) (by omega)) rfl rfl rfl (jdet (st' := [aB (0 ≤ p ∧ p ≤ 1)]) rfl ?_)
    refine j_ifb_eq (tgt := 36) (pc' := 17) dX12_oneByOne_14 (by decide) rfl (fun h14 => ?_) (fun h14 => ?_)
    · refine j_ldc2 (pc' := 39) (n := -1000000001) dX12_oneByOne_36 rfl k_Mod_183 (by decide) ?_
      exact j_lret dX12_oneByOne_39 rfl (jML_of (by unfold oneA; first | rw [if_pos (by omega)] | rw [if_neg (by omega)]) hT)
    · have hpw := pow7 (n := n) (by omega)
      have hws := wts_bd (set := x) hB
      obtain ⟨ho1, ho2, ho3, ho4⟩ := obo_bd hB (set := x) (by omega)
      refine j_aload_n (pc' := 18) (z := 53) dX12_oneByOne_17 rfl rfl ?_
      refine j_iload_n (pc' := 19) (z := x) dX12_oneByOne_18 rfl rfl ?_
      refine j_callV (pc' := 22) (as := [aI x]) (rest := []) dX12_oneByOne_19 rfl s_Mod_185 (c_Mod_oneByOneOf hT.1 hB hsh (by omega)) (by omega) hO rfl rfl rfl rfl (jdet (st' := [aI (oboV D n x)]) rfl ?_)
      refine j_i2l (pc' := 23) dX12_oneByOne_22 rfl (by omega) ?_
      refine j_aload_n (pc' := 24) (z := 53) dX12_oneByOne_23 rfl rfl ?_
      refine j_iload_n (pc' := 25) (z := x) dX12_oneByOne_24 rfl rfl ?_
      refine j_callV (pc' := 28) (as := [aI x]) (rest := [aL (oboV D n x)]) dX12_oneByOne_25 rfl s_Mod_166 (c_Mod_weightOf hT.1 hB hsh (by omega)) (by omega) hO rfl rfl rfl rfl (jdet (st' := [aI (wts D n x), aL (oboV D n x)]) rfl ?_)
      refine j_i2l (pc' := 29) dX12_oneByOne_28 rfl (by omega) ?_
      refine j_iload_n (pc' := 30) (z := p) dX12_oneByOne_29 rfl rfl ?_
      refine j_callS (pc' := 33) (as := [aL (oboV D n x), aL (wts D n x), aI p]) (rest := []) dX12_oneByOne_30 rfl s_Mod_179 (c_Mod_partOf (by omega) (by omega) (by omega) ho4) rfl rfl rfl (jdet (st' := [aL (lowT (oboV D n x) (wts D n x) p)]) rfl ?_)
      refine j_goto (pc' := 39) dX12_oneByOne_33 (by decide) ?_
      exact j_lret dX12_oneByOne_39 rfl (jML_of (by unfold oneA; first | rw [if_pos (by omega)] | rw [if_neg (by omega)]) hT)
set_option maxRecDepth 100000 in
set_option maxHeartbeats 4000000 in
theorem c_Mod_worse {l : Launch} {w : AW} {D Di : Int → Int → Int} {n mi hi ni mj : Int} {sh E : Int → Int → Int} {x : Int} (hM : Mod w D n mi hi Di ni mj sh E) (hB : CarOK D n mi) (hI : CarOK Di ni mj) (hhi : hi = 0 ∨ hi = 1) (hsh : ShOK sh E) (hwd : WdOK D) (hx : inI x) : Call l m_Mod_worse false 68 68 [aR 53, aI x] w (jM w (worseA D n x) D n mi hi Di ni mj sh E) := by
  have hT := MS.rf hM
  have hM0 := hM
  obtain ⟨⟨pc, ra, re, fm, se, th, hO⟩, ⟨S, hS, hR⟩, ⟨Sm, hSm⟩, ⟨Si, hSi, hRi⟩, ⟨Sw, hSw⟩, ⟨nu, hnu⟩, ⟨ha, hha⟩, ⟨fg, hfg⟩, ke, kk, kf, so, si, el, ⟨hke, hkk, hkf, hso, hsi, hel⟩, hRel⟩ := hM
  obtain ⟨hn, hD, hs0, hs1, hs2, hs3⟩ := id hB
  refine Call.of (L := [some (aR 53), some (aI x)]) rfl (Nat.le_of_ble_eq_true rfl) rfl (fun G ad => ?_)
  refine j_aload_n (pc' := 1) (z := 53) dX12_worse_0 rfl rfl ?_
  refine j_iload_n (pc' := 2) (z := x) dX12_worse_1 rfl rfl ?_
  refine j_callV (pc' := 5) (as := [aI x]) (rest := []) dX12_worse_2 rfl s_Mod_173 (c_Mod_isSet hT.1 hB hsh (by omega)) (by omega) hO rfl rfl rfl rfl (jdet (st' := [aB (1 ≤ x ∧ x < 2 ^ (Int.toNat n))]) rfl ?_)
  refine j_ifb_eq (tgt := 22) (pc' := 8) dX12_worse_5 (by decide) rfl (fun h5 => ?_) (fun h5 => ?_)
  · refine j_iconst (pc' := 23) dX12_worse_22 rfl ?_
    exact j_iret dX12_worse_23 rfl (jM_of (by unfold worseA; first | rw [if_pos (by omega)] | rw [if_neg (by omega)]) hT)
  · have hpw := pow7 (n := n) (by omega)
    have hws := wts_bd (set := x) hB
    refine j_aload_n (pc' := 9) (z := 53) dX12_worse_8 rfl rfl ?_
    refine j_iload_n (pc' := 10) (z := x) dX12_worse_9 rfl rfl ?_
    refine j_callV (pc' := 13) (as := [aI x]) (rest := []) dX12_worse_10 rfl s_Mod_185 (c_Mod_oneByOneOf hT.1 hB hsh (by omega)) (by omega) hO rfl rfl rfl rfl (jdet (st' := [aI (oboV D n x)]) rfl ?_)
    refine j_aload_n (pc' := 14) (z := 53) dX12_worse_13 rfl rfl ?_
    refine j_iload_n (pc' := 15) (z := x) dX12_worse_14 rfl rfl ?_
    refine j_callV (pc' := 18) (as := [aI x]) (rest := [aI (oboV D n x)]) dX12_worse_15 rfl s_Mod_176 (c_Mod_halvesOf hT.1 hB hsh (by omega)) (by omega) hO rfl rfl rfl rfl (fun r9 w9 h9 => ?_)
    obtain ⟨rfl, Q1, rfl⟩ := h9
    refine j_st (st' := [aI (halV D n x), aI (oboV D n x)]) rfl ?_
    refine j_isub (pc' := 19) dX12_worse_18 rfl ?_
    refine j_goto (pc' := 23) dX12_worse_19 (by decide) ?_
    exact j_iret dX12_worse_23 rfl (jM_of (by unfold worseA; first | rw [if_pos (by omega)] | rw [if_neg (by omega)]) hT.ha)
