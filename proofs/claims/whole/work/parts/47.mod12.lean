/-- what a row of bytes holds are bytes -/
def ByOK (sh E : Int → Int → Int) : Prop := ∀ d, 0 ≤ d ∧ d ≤ 7 → sh 0 d = 2 → sh 3 d = 0 → ∀ i, 0 ≤ i ∧ i < 100 → -128 ≤ E d i ∧ E d i ≤ 127
/-- how many statements there are from a on -/
def cnN (E : Int → Int) (sz : Int) : Nat → Int → Int
  | 0, _ => 0
  | k + 1, a => if a < sz then 1 + cnN E sz k (a + digB (E a) + 2) else 0
theorem cn_z {E : Int → Int} {sz a : Int} {k : Nat} (h : sz ≤ a) : cnN E sz k a = 0 := by
  cases k with
  | zero => rfl
  | succ k => rw [cnN, if_neg (by omega)]
theorem cn_s {E : Int → Int} {sz a : Int} {k : Nat} (h : a < sz) : cnN E sz (k + 1) a = 1 + cnN E sz k (a + digB (E a) + 2) := by rw [cnN, if_pos h]
theorem fol_cn {E : Int → Int} {sz : Int} : ∀ (k : Nat) (a s : Int) (x : CS), 0 ≤ a → 0 ≤ (fol E sz k a s x).1 → (fol E sz k a s x).1 = s + cnN E sz k a
  | 0, a, s, x, _, _ => by show s = s + 0; omega
  | k + 1, a, s, x, h0, h => by
    rw [fol] at h ⊢
    rw [cnN]
    split at h
    · rename_i h1
      rw [if_pos h1, if_pos h1]
      split at h
      · rename_i h2
        rw [if_pos h2]
        have := digB_bd (c := E a)
        have := fol_cn k _ _ _ (by omega) h
        omega
      · exfalso
        have h9 : (-2000 - a : Int) ≥ 0 := h
        omega
    · rename_i h1
      rw [if_neg h1, if_neg h1]
      show s = s + 0
      omega
theorem fol_ng {E : Int → Int} {sz a s : Int} {k : Nat} {x : CS} (h0 : 0 ≤ a) (h : a < sz) (h2 : ¬ 0 ≤ (stq E a x).1) : (fol E sz (k + 1) a s x).1 = -2000 - a := by rw [fol_n h h2]
theorem TX_of {sh E : Int → Int → Int} {ke kk kf so si el : Int → Int} {d : Int} (hR : ShRel sh E ke kk kf so si el) (hb : ByOK sh E) (hd : 0 ≤ d ∧ d ≤ 7) (h2 : sh 0 d = 2) (h3 : sh 3 d = 0) (hz : 0 ≤ sh 4 d ∧ sh 4 d ≤ 100) : TX el (E d) (100 * d) (sh 4 d) :=
  ⟨fun i hi => ⟨((hR d hd).2.2 h2).2.2 i hi, hb d hd h2 h3 i hi⟩, by omega, hz⟩
theorem ff_0 {E : Int → Int} {sz : Int} (h : 0 ≤ sz ∧ sz ≤ 100) : formF E sz = (if 0 ≤ sf E sz 0 then sf E sz 0 else ffN E sz (sz.toNat - 1) (0 + digB (E 0) + 2)) := by
  unfold formF
  by_cases c : sz = 0
  · have e : sf E sz 0 = 0 := by unfold sf; rw [if_neg (by omega)]
    rw [if_pos c, e]; rfl
  · rw [if_neg c, show sz.toNat = (sz.toNat - 1) + 1 by omega, ffN, if_pos (by omega)]
    rfl
theorem cn_0 {E : Int → Int} {sz : Int} (h : 0 < sz) : cnN E sz sz.toNat 0 = 0 + (1 + cnN E sz (sz.toNat - 1) (0 + digB (E 0) + 2)) := by
  rw [show sz.toNat = (sz.toNat - 1) + 1 by omega, cn_s h, show sz.toNat - 1 + 1 - 1 = sz.toNat - 1 by omega]; omega
theorem ff_1 {E : Int → Int} {sz a p : Int} {k : Nat} {x : Int} (h : sf E sz a < 0) (hk : 0 < k) (hp : p = a + digB (E a) + 2) (hps : p < sz) (hv : x = (if 0 ≤ sf E sz a then sf E sz a else ffN E sz k (a + digB (E a) + 2))) : x = (if 0 ≤ sf E sz p then sf E sz p else ffN E sz (k - 1) (p + digB (E p) + 2)) := by
  rw [hv, if_neg (by omega), ← hp]
  obtain ⟨k, rfl⟩ : ∃ j, k = j + 1 := ⟨k - 1, by omega⟩
  rw [ffN, if_pos hps]; rfl
theorem cn_1 {E : Int → Int} {sz a p c : Int} {k : Nat} (hk : 0 < k) (hp : p = a + digB (E a) + 2) (hps : p < sz) : c + (1 + cnN E sz k (a + digB (E a) + 2)) = c + 1 + (1 + cnN E sz (k - 1) (p + digB (E p) + 2)) := by
  rw [← hp]
  obtain ⟨k, rfl⟩ : ∃ j, k = j + 1 := ⟨k - 1, by omega⟩
  rw [cn_s hps, show k + 1 - 1 = k by omega]; omega
set_option maxRecDepth 100000 in
set_option maxHeartbeats 4000000 in
theorem c_Mod_road {l : Launch} {w : AW} {D Di : Int → Int → Int} {n mi hi ni mj : Int} {sh E : Int → Int → Int} {d : Int} (hM : Mod w D n mi hi Di ni mj sh E) (hB : CarOK D n mi) (hI : CarOK Di ni mj) (hhi : hi = 0 ∨ hi = 1) (hsh : ShOK sh E) (hwd : WdOK D) (hby : ByOK sh E) (hd : inI d) : Call l m_Mod_road false 68 68 [aR 53, aI d] w (jM w (roadA D n mi sh E d) ((roadX D n mi sh E d).1) ((roadX D n mi sh E d).2.1) ((roadX D n mi sh E d).2.2) hi Di ni mj sh E) := by
  have hT := MS.rf hM
  have hM0 := hM
  obtain ⟨⟨pc, ra, re, fm, se, th, hO⟩, ⟨S, hS, hR⟩, ⟨Sm, hSm⟩, ⟨Si, hSi, hRi⟩, ⟨Sw, hSw⟩, ⟨nu, hnu⟩, ⟨ha, hha⟩, ⟨fg, hfg⟩, ke, kk, kf, so, si, el, ⟨hke, hkk, hkf, hso, hsi, hel⟩, hRel⟩ := hM
  obtain ⟨hn, hD, hs0, hs1, hs2, hs3⟩ := id hB
  refine Call.of (L := [some (aR 53), some (aI d), none, none, none, none, none, none]) rfl (Nat.le_of_ble_eq_true rfl) rfl (fun G ad => ?_)
  refine j_aload_n (pc' := 1) (z := 53) dX12_road_0 rfl rfl ?_
  refine j_iload_n (pc' := 2) (z := d) dX12_road_1 rfl rfl ?_
  refine j_iconst (pc' := 3) dX12_road_2 rfl ?_
  refine j_callV (pc' := 6) (as := [aI d, aI 0]) (rest := []) dX12_road_3 rfl s_Mod_127 (c_Mod_wrongRow hT.1 hB hsh (by omega) (by omega)) (by omega) hO rfl rfl rfl rfl (jdet (st' := [aI (wrR sh d 0)]) rfl ?_)
  refine j_istore_n (pc' := 7) (L' := [some (aR 53), some (aI d), some (aI (wrR sh d 0)), none, none, none, none, none]) dX12_road_6 rfl (by decide) rfl ?_
  have hw0 := wrR_0 (sh := sh) (d := d)
  have hrb := rowR_bd (sh := sh) (d := d)
  have hwb : -12 ≤ wrR sh d 0 ∧ wrR sh d 0 ≤ 0 := by rw [hw0]; (repeat' split) <;> omega
  refine j_iload_n (pc' := 8) (z := (wrR sh d 0)) dX12_road_7 rfl rfl ?_
  refine j_if_eq (tgt := 13) (pc' := 11) dX12_road_8 (by decide) rfl (by omega) (fun h8 => ?_) (fun h8 => ?_)
  · have hz9 : rowR sh d = 0 ∧ sh 3 d = 0 := by rw [hw0] at h8; (repeat' split at h8) <;> first | (exact ⟨by assumption, by assumption⟩) | omega
    obtain ⟨hr0, hs0b⟩ := hz9
    obtain ⟨hd7, hct⟩ := rowR_0 hr0
    obtain ⟨q1, q2, q3, q4, q5, q6⟩ := id (hsh d (by omega))
    have hX := TX_of hRel hby hd7 hct hs0b q5
    have hfb := formF_bd (E := E d) (sz := (sh 4 d)) (by omega)
    refine j_aload_n (pc' := 14) (z := 53) dX12_road_13 rfl rfl ?_
    refine j_bipush (pc' := 16) dX12_road_14 rfl (by decide) ?_
    refine j_iload_n (pc' := 17) (z := d) dX12_road_16 rfl rfl ?_
    refine j_imul (pc' := 18) dX12_road_17 rfl ?_
    refine j_putI (pc' := 21) dX12_road_18 rfl p_Mod_92 (by omega) hO (Nat.le_of_ble_eq_true rfl) ?_
    refine j_w (w' := up w 53 (eO 11 [aR 54, aR 55, aR 56, aR 57, aI hi, aI pc, aI (100 * d), aI re, aR 58, aR 59, aR 60, aI fm, aI se, aR 61, aR 62, aR 63, aR 64, aR 65, aR 66, aI th])) rfl ?_
    refine j_aload_n (pc' := 22) (z := 53) dX12_road_21 rfl rfl ?_
    refine j_aload_n (pc' := 23) (z := 53) dX12_road_22 rfl rfl ?_
    refine j_get (pc' := 26) (v := aR 65) dX12_road_23 rfl f_Mod_43 (by omega) up_s rfl ?_
    refine j_iload_n (pc' := 27) (z := d) dX12_road_26 rfl rfl ?_
    refine j_iald (pc' := 28) dX12_road_27 rfl (by omega) ((up_n (by omega)).trans hsi) (by omega) (by decide) ?_
    refine j_top (b := sh 4 d) ((hRel d (by omega)).2.2 (by omega)).2.1 ?_
    refine j_putI (pc' := 31) dX12_road_28 rfl p_Mod_89 (by omega) up_s (Nat.le_of_ble_eq_true rfl) ?_
    refine j_w (w' := up w 53 (eO 11 [aR 54, aR 55, aR 56, aR 57, aI hi, aI pc, aI (100 * d), aI (sh 4 d), aR 58, aR 59, aR 60, aI fm, aI se, aR 61, aR 62, aR 63, aR 64, aR 65, aR 66, aI th])) (by funext j9; simp only [up]; (repeat' split) <;> first | rfl | (exfalso; omega)) ?_
    refine j_aload_n (pc' := 32) (z := 53) dX12_road_31 rfl rfl ?_
    refine j_iconst (pc' := 33) dX12_road_32 rfl ?_
    refine j_putI (pc' := 36) dX12_road_33 rfl p_Mod_85 (by omega) up_s (Nat.le_of_ble_eq_true rfl) ?_
    refine j_w (w' := up w 53 (eO 11 [aR 54, aR 55, aR 56, aR 57, aI hi, aI 0, aI (100 * d), aI (sh 4 d), aR 58, aR 59, aR 60, aI fm, aI se, aR 61, aR 62, aR 63, aR 64, aR 65, aR 66, aI th])) (by funext j9; simp only [up]; (repeat' split) <;> first | rfl | (exfalso; omega)) ?_
    refine j_iconst (pc' := 37) dX12_road_36 rfl ?_
    refine j_istore_n (pc' := 38) (L' := [some (aR 53), some (aI d), some (aI (wrR sh d 0)), some (aI 0), none, none, none, none]) dX12_road_37 rfl (by decide) rfl ?_
    refine j_iconst (pc' := 39) dX12_road_38 rfl ?_
    refine j_istore (pc' := 41) (L' := [some (aR 53), some (aI d), some (aI (wrR sh d 0)), some (aI 0), some (aI 0), none, none, none]) dX12_road_39 rfl (by decide) rfl ?_
    have lp41 : ∀ (k9 : Nat) (v : Int → Int) (a : Int) (c : Int) (kf : Nat), (0 ≤ a ∧ a ≤ 100) → (a < sh 4 d ∨ (a = 0 ∧ sh 4 d = 0)) → (sh 4 d - a ≤ (kf : Int) + 1) → (formF (E d) (sh 4 d) = (if 0 ≤ sf (E d) (sh 4 d) a then sf (E d) (sh 4 d) a else ffN (E d) (sh 4 d) kf (a + digB (E d a) + 2))) → (0 < (sh 4 d) → cnN (E d) (sh 4 d) (sh 4 d).toNat 0 = c + (1 + cnN (E d) (sh 4 d) kf (a + digB (E d a) + 2))) → (0 ≤ c ∧ c ≤ a) → (((sh 4 d) - a).toNat) = k9 → J l m_Mod_road ad G [] false (jZ ad G false 68 m_Mod_road.2.2.2.2.cells m_Mod_road.2.2.2.2.slots (jM w (roadA D n mi sh E d) ((roadX D n mi sh E d).1) ((roadX D n mi sh E d).2.1) ((roadX D n mi sh E d).2.2) hi Di ni mj sh E)) 68 0 0 41 [some (aR 53), some (aI d), some (aI (wrR sh d 0)), some (aI c), some (aI 0), none, none, none] [] (up (up w 58 (eI 4 v)) 53 (eO 11 [aR 54, aR 55, aR 56, aR 57, aI hi, aI a, aI (100 * d), aI (sh 4 d), aR 58, aR 59, aR 60, aI fm, aI se, aR 61, aR 62, aR 63, aR 64, aR 65, aR 66, aI th])) := by
      intro k9
      induction k9 using Nat.strongRecOn with
      | _ k9 ih41 =>
        intro v a c kf ha9 ha8 hk hv hc hcb hk41
        refine j_aload_n (pc' := 42) (z := 53) dX12_road_41 rfl rfl ?_
        refine j_callV (pc' := 45) (as := []) (rest := []) dX12_road_42 rfl s_Mod_130 (c_Mod_readsStatement up_s ((up_n (by omega)).trans ((up_n (by omega)).trans hel)) hX ((up_n (by omega)).trans up_s) (by omega)) (by omega) up_s rfl rfl rfl rfl (fun r9 w9 h9 => ?_)
        obtain ⟨rfl, v1, rfl, hN1⟩ := h9
        obtain ⟨p1, hp1⟩ : ∃ p, p = (if sf (E d) (sh 4 d) a < 0 then a + digB (E d a) + 2 else sf (E d) (sh 4 d) a) := ⟨_, rfl⟩
        refine j_st (st' := [aB (sf (E d) (sh 4 d) a < 0)]) rfl ?_
        refine j_w (w' := up (up w 58 (eI 4 v1)) 53 (eO 11 [aR 54, aR 55, aR 56, aR 57, aI hi, aI p1, aI (100 * d), aI (sh 4 d), aR 58, aR 59, aR 60, aI fm, aI se, aR 61, aR 62, aR 63, aR 64, aR 65, aR 66, aI th])) (by rw [hp1]; funext j9; simp only [up]; (repeat' split) <;> first | rfl | (exfalso; omega)) ?_
        have hsb := sf_bd (E := E d) (sz := (sh 4 d)) (a := a) (by omega)
        have hdb := digB_bd (c := E d a)
        refine j_ifb_ne (tgt := 58) (pc' := 48) dX12_road_45 (by decide) rfl (fun h45 => ?_) (fun h45 => ?_)
        · have hp1e : p1 = a + digB (E d a) + 2 := by rw [hp1, if_pos (by omega)]
          have hso := sf_ok (E := E d) (sz := (sh 4 d)) (a := a) (by omega) (by omega)
          refine j_iinc (pc' := 61) (z := c) (L' := [some (aR 53), some (aI d), some (aI (wrR sh d 0)), some (aI (c + 1)), some (aI 0), none, none, none]) dX12_road_58 rfl (by decide) rfl rfl rfl ?_
          refine j_iload (pc' := 63) (z := 0) dX12_road_61 rfl rfl ?_
          refine j_if_ne (tgt := 77) (pc' := 66) dX12_road_63 (by decide) rfl (by omega) (fun h63 => ?_) (fun h63 => ?_)
          · exact absurd rfl h63
          · refine j_aload_n (pc' := 67) (z := 53) dX12_road_66 rfl rfl ?_
            refine j_get (pc' := 70) (v := aI p1) dX12_road_67 rfl f_Mod_85 (by omega) up_s rfl ?_
            refine j_aload_n (pc' := 71) (z := 53) dX12_road_70 rfl rfl ?_
            refine j_get (pc' := 74) (v := aI (sh 4 d)) dX12_road_71 rfl f_Mod_89 (by omega) up_s rfl ?_
            refine j_icmp_lt (tgt := 41) (pc' := 77) dX12_road_74 (by decide) rfl (by omega) (by omega) (fun h74 => ?_) (fun h74 => ?_)
            · exact ih41 _ (by omega) v1 p1 (c + 1) (kf - 1) (by omega) (by omega) (by omega) (by exact ff_1 (by omega) (by omega) hp1e (by omega) hv) (by intro z; rw [hc z]; exact cn_1 (by omega) hp1e (by omega)) (by omega) rfl
            · have hffz : formF (E d) (sh 4 d) = -1 := by rw [hv, if_neg (by omega), ffN_z (by omega)]
              have hsz : 0 < (sh 4 d) := by
                rcases Int.lt_or_le 0 (sh 4 d) with z | z
                · exact z
                · exfalso
                  have : formF (E d) (sh 4 d) = 0 := by unfold formF; rw [if_pos (by omega)]
                  omega
              have hffn : ffN (E d) (sh 4 d) (sh 4 d).toNat 0 = -1 := formF_n (by omega) (by omega)
              have hcn : cnN (E d) (sh 4 d) (sh 4 d).toNat 0 = c + 1 := by rw [hc hsz, cn_z (k := kf) (by omega)]; omega
              clear hv hc hk
              refine j_aload_n (pc' := 78) (z := 53) dX12_road_77 rfl rfl ?_
              refine j_get (pc' := 81) (v := aR 54) dX12_road_78 rfl f_Mod_9 (by omega) up_s rfl ?_
              refine j_aload_n (pc' := 82) (z := 53) dX12_road_81 rfl rfl ?_
              refine j_get (pc' := 85) (v := aR 57) dX12_road_82 rfl f_Mod_19 (by omega) up_s rfl ?_
              refine j_callS (pc' := 88) (as := [aR 54, aR 57]) (rest := []) dX12_road_85 rfl s_Mod_134 (c_Mod_lays ((up_n (by omega)).trans ((up_n (by omega)).trans hS)) ((up_n (by omega)).trans ((up_n (by omega)).trans hSw)) (by omega) (by omega) (by omega)) rfl rfl rfl (jdet (st' := []) rfl ?_)
              refine j_aload_n (pc' := 89) (z := 53) dX12_road_88 rfl rfl ?_
              refine j_iconst (pc' := 90) dX12_road_89 rfl ?_
              refine j_putI (pc' := 93) dX12_road_90 rfl p_Mod_85 (by omega) ((up_n (by omega)).trans up_s) (Nat.le_of_ble_eq_true rfl) ?_
              refine j_w (w' := up (up (up w 58 (eI 4 v1)) 53 (eO 11 [aR 54, aR 55, aR 56, aR 57, aI hi, aI 0, aI (100 * d), aI (sh 4 d), aR 58, aR 59, aR 60, aI fm, aI se, aR 61, aR 62, aR 63, aR 64, aR 65, aR 66, aI th])) 57 (eI 48 S)) (by funext j9; simp only [up]; (repeat' split) <;> first | rfl | (exfalso; omega)) ?_
              have lp93 : ∀ (k9 : Nat) (v : Int → Int) (a : Int) (X : Int → Int) (x : CS) (kf : Nat), (0 ≤ a ∧ a ≤ 200) → (CSOK x) → (Row X x.1 x.2.1 x.2.2) → ((sh 4 d) - a ≤ (kf : Int)) → (ffN (E d) (sh 4 d) kf a = -1) → (∃ s0, 0 ≤ s0 ∧ s0 + cnN (E d) (sh 4 d) kf a = c + 1 ∧ folA (E d) (sh 4 d) (D, n, mi) = fol (E d) (sh 4 d) kf a s0 x) → (((sh 4 d) - a).toNat) = k9 → J l m_Mod_road ad G [] false (jZ ad G false 68 m_Mod_road.2.2.2.2.cells m_Mod_road.2.2.2.2.slots (jM w (roadA D n mi sh E d) ((roadX D n mi sh E d).1) ((roadX D n mi sh E d).2.1) ((roadX D n mi sh E d).2.2) hi Di ni mj sh E)) 68 0 0 93 [some (aR 53), some (aI d), some (aI (wrR sh d 0)), some (aI (c + 1)), some (aI 0), none, none, none] [] (up (up (up (up w 58 (eI 4 v)) 53 (eO 11 [aR 54, aR 55, aR 56, aR 57, aI hi, aI a, aI (100 * d), aI (sh 4 d), aR 58, aR 59, aR 60, aI fm, aI se, aR 61, aR 62, aR 63, aR 64, aR 65, aR 66, aI th])) 57 (eI 48 S)) 54 (eI 48 X)) := by
                intro k9
                induction k9 using Nat.strongRecOn with
                | _ k9 ih93 =>
                  intro v a X x kf ha9 hx hRX hk hf1 hv hk93
                  refine j_iload (pc' := 95) (z := 0) dX12_road_93 rfl rfl ?_
                  refine j_if_ne (tgt := 161) (pc' := 98) dX12_road_95 (by decide) rfl (by omega) (fun h95 => ?_) (fun h95 => ?_)
                  · exact absurd rfl h95
                  · refine j_aload_n (pc' := 99) (z := 53) dX12_road_98 rfl rfl ?_
                    refine j_get (pc' := 102) (v := aI a) dX12_road_99 rfl f_Mod_85 (by omega) ((up_n (by omega)).trans ((up_n (by omega)).trans up_s)) rfl ?_
                    refine j_aload_n (pc' := 103) (z := 53) dX12_road_102 rfl rfl ?_
                    refine j_get (pc' := 106) (v := aI (sh 4 d)) dX12_road_103 rfl f_Mod_89 (by omega) ((up_n (by omega)).trans ((up_n (by omega)).trans up_s)) rfl ?_
                    refine j_icmp_ge (tgt := 161) (pc' := 109) dX12_road_106 (by decide) rfl (by omega) (by omega) (fun h106 => ?_) (fun h106 => ?_)
                    · refine j_iload (pc' := 163) (z := 0) dX12_road_161 rfl rfl ?_
                      refine j_if_ne (tgt := 170) (pc' := 166) dX12_road_163 (by decide) rfl (by omega) (fun h163 => ?_) (fun h163 => ?_)
                      · exact absurd rfl h163
                      · refine j_iload_n (pc' := 167) (z := (c + 1)) dX12_road_166 rfl rfl ?_
                        refine j_goto (pc' := 172) dX12_road_167 (by decide) ?_
                        exact j_iret dX12_road_172 rfl (jM_of (by obtain ⟨s0, z1, z2, z3⟩ := hv; rw [road_4 hr0 hs0b (by omega), z3, fol_z (by omega)]; rw [cn_z (by omega)] at z2; show c + 1 = s0; omega) (by obtain ⟨s0, z1, z2, z3⟩ := hv; have e9 : (folA (E d) (sh 4 d) (D, n, mi)) = (s0, x) := (by rw [z3, fol_z (by omega)]); have h9 := road_4 (D := D) (n := n) (mi := mi) (E := E) hr0 hs0b (by omega); rw [roadX_y h9 (by rw [e9]; exact z1), e9]; exact (hT.nu.ob.was.s hRX)))
                    · obtain ⟨k1, hk1⟩ : ∃ j, kf = j + 1 := ⟨kf - 1, by omega⟩
                      subst hk1
                      have hsfn : ¬ 0 ≤ sf (E d) (sh 4 d) a := fun q9 => by rw [ffN_y (by omega) q9] at hf1; omega
                      have hsf := sf_ok (E := E d) (sz := (sh 4 d)) ha9.1 (by omega)
                      have hbE := (hX.1 a (by omega)).2
                      have hher : herV (E d) (sh 4 d) a = E d a := by have := digB_let hsf.1.2; unfold herV; rw [if_pos (by omega)]; omega
                      have hdb := digB_bd (c := E d a)
                      refine j_aload_n (pc' := 110) (z := 53) dX12_road_109 rfl rfl ?_
                      refine j_get (pc' := 113) (v := aI a) dX12_road_110 rfl f_Mod_85 (by omega) ((up_n (by omega)).trans ((up_n (by omega)).trans up_s)) rfl ?_
                      refine j_istore (pc' := 115) (L' := [some (aR 53), some (aI d), some (aI (wrR sh d 0)), some (aI (c + 1)), some (aI 0), some (aI a), none, none]) dX12_road_113 rfl (by decide) rfl ?_
                      refine j_aload_n (pc' := 116) (z := 53) dX12_road_115 rfl rfl ?_
                      refine j_callV (pc' := 119) (as := []) (rest := []) dX12_road_116 rfl s_Mod_95 (c_Mod_here ((up_n (by omega)).trans ((up_n (by omega)).trans up_s)) ((up_n (by omega)).trans ((up_n (by omega)).trans ((up_n (by omega)).trans ((up_n (by omega)).trans hel)))) hX (by omega)) (by omega) ((up_n (by omega)).trans ((up_n (by omega)).trans up_s)) rfl rfl rfl rfl (jdet (st' := [aI (herV (E d) (sh 4 d) a)]) rfl ?_)
                      refine j_top (b := E d a) hher ?_
                      refine j_istore (pc' := 121) (L' := [some (aR 53), some (aI d), some (aI (wrR sh d 0)), some (aI (c + 1)), some (aI 0), some (aI a), some (aI (E d a)), none]) dX12_road_119 rfl (by decide) rfl ?_
                      refine j_aload_n (pc' := 122) (z := 53) dX12_road_121 rfl rfl ?_
                      refine j_callV (pc' := 125) (as := []) (rest := []) dX12_road_122 rfl s_Mod_130 (c_Mod_readsStatement ((up_n (by omega)).trans ((up_n (by omega)).trans up_s)) ((up_n (by omega)).trans ((up_n (by omega)).trans ((up_n (by omega)).trans ((up_n (by omega)).trans hel)))) hX ((up_n (by omega)).trans ((up_n (by omega)).trans ((up_n (by omega)).trans up_s))) (by omega)) (by omega) ((up_n (by omega)).trans ((up_n (by omega)).trans up_s)) rfl rfl rfl rfl (fun r9 w9 h9 => ?_)
                      obtain ⟨rfl, v2, rfl, hN2⟩ := h9
                      obtain ⟨p2, hp2⟩ : ∃ p, p = (if sf (E d) (sh 4 d) a < 0 then a + digB (E d a) + 2 else sf (E d) (sh 4 d) a) := ⟨_, rfl⟩
                      refine j_st (st' := [aB (sf (E d) (sh 4 d) a < 0)]) rfl ?_
                      refine j_w (w' := up (up (up (up w 58 (eI 4 v2)) 53 (eO 11 [aR 54, aR 55, aR 56, aR 57, aI hi, aI p2, aI (100 * d), aI (sh 4 d), aR 58, aR 59, aR 60, aI fm, aI se, aR 61, aR 62, aR 63, aR 64, aR 65, aR 66, aI th])) 57 (eI 48 S)) 54 (eI 48 X)) (by rw [hp2]; funext j9; simp only [up]; (repeat' split) <;> first | rfl | (exfalso; omega)) ?_
                      refine j_istore (pc' := 127) (L' := [some (aR 53), some (aI d), some (aI (wrR sh d 0)), some (aI (c + 1)), some (aI 0), some (aI a), some (aI (E d a)), some (aB (sf (E d) (sh 4 d) a < 0))]) dX12_road_125 rfl (by decide) rfl ?_
                      have hp2e : p2 = a + digB (E d a) + 2 := by rw [hp2, if_pos (by omega)]
                      refine j_aload_n (pc' := 128) (z := 53) dX12_road_127 rfl rfl ?_
                      refine j_iload (pc' := 130) (z := (E d a)) dX12_road_128 rfl rfl ?_
                      refine j_callV (pc' := 133) (as := [aI (E d a)]) (rest := []) dX12_road_130 rfl s_Mod_138 (c_Mod_isDone ((up_n (by omega)).trans ((up_n (by omega)).trans up_s)) up_s hRX hx.1 ((up_n (by omega)).trans ((up_n (by omega)).trans ((up_n (by omega)).trans up_s))) hx.2 (hN2 (by omega)) hsf.1.2 (fun k h1 h2 => (hsf.2.1 k h1 h2).2)) (by omega) ((up_n (by omega)).trans ((up_n (by omega)).trans up_s)) rfl rfl rfl rfl (fun r9 w9 h9 => ?_)
                      obtain ⟨rfl, Y3, rfl, hY3⟩ := h9
                      refine j_st (st' := [aB (0 ≤ (stq (E d) a x).1)]) rfl ?_
                      refine j_w (w' := up (up (up (up w 58 (eI 4 v2)) 53 (eO 11 [aR 54, aR 55, aR 56, aR 57, aI hi, aI p2, aI (100 * d), aI (sh 4 d), aR 58, aR 59, aR 60, aI fm, aI se, aR 61, aR 62, aR 63, aR 64, aR 65, aR 66, aI th])) 57 (eI 48 S)) 54 (eI 48 Y3)) (by funext j9; simp only [up]; (repeat' split) <;> first | rfl | (exfalso; omega)) ?_
                      refine j_ifb_eq (tgt := 139) (pc' := 136) dX12_road_133 (by decide) rfl (fun h133 => ?_) (fun h133 => ?_)
                      · refine j_sipush (pc' := 142) dX12_road_139 rfl (by decide) ?_
                        refine j_iload (pc' := 144) (z := a) dX12_road_142 rfl rfl ?_
                        refine j_isub (pc' := 145) dX12_road_144 rfl ?_
                        refine j_istore (pc' := 147) (L' := [some (aR 53), some (aI d), some (aI (wrR sh d 0)), some (aI (c + 1)), some (aI ((-2000) - a)), some (aI a), some (aI (E d a)), some (aB (sf (E d) (sh 4 d) a < 0))]) dX12_road_145 rfl (by decide) rfl ?_
                        refine j_aload_n (pc' := 148) (z := 53) dX12_road_147 rfl rfl ?_
                        refine j_get (pc' := 151) (v := aR 57) dX12_road_148 rfl f_Mod_19 (by omega) ((up_n (by omega)).trans ((up_n (by omega)).trans up_s)) rfl ?_
                        refine j_aload_n (pc' := 152) (z := 53) dX12_road_151 rfl rfl ?_
                        refine j_get (pc' := 155) (v := aR 54) dX12_road_152 rfl f_Mod_9 (by omega) ((up_n (by omega)).trans ((up_n (by omega)).trans up_s)) rfl ?_
                        refine j_callS (pc' := 158) (as := [aR 57, aR 54]) (rest := []) dX12_road_155 rfl s_Mod_134 (c_Mod_lays ((up_n (by omega)).trans up_s) up_s (by omega) (by omega) (by omega)) rfl rfl rfl (jdet (st' := []) rfl ?_)
                        refine j_w (w' := up (up (up (up w 58 (eI 4 v2)) 53 (eO 11 [aR 54, aR 55, aR 56, aR 57, aI hi, aI p2, aI (100 * d), aI (sh 4 d), aR 58, aR 59, aR 60, aI fm, aI se, aR 61, aR 62, aR 63, aR 64, aR 65, aR 66, aI th])) 57 (eI 48 S)) 54 (eI 48 S)) (by funext j9; simp only [up]; (repeat' split) <;> first | rfl | (exfalso; omega)) ?_
                        refine j_goto (pc' := 93) dX12_road_158 (by decide) ?_
                        refine j_iload (pc' := 95) (z := ((-2000) - a)) dX12_road_93 rfl rfl ?_
                        refine j_if_ne (tgt := 161) (pc' := 98) dX12_road_95 (by decide) rfl (by omega) (fun h95 => ?_) (fun h95 => ?_)
                        · refine j_iload (pc' := 163) (z := ((-2000) - a)) dX12_road_161 rfl rfl ?_
                          refine j_if_ne (tgt := 170) (pc' := 166) dX12_road_163 (by decide) rfl (by omega) (fun h163 => ?_) (fun h163 => ?_)
                          · refine j_iload (pc' := 172) (z := ((-2000) - a)) dX12_road_170 rfl rfl ?_
                            exact j_iret dX12_road_172 rfl (jM_of (by obtain ⟨s0, z1, z2, z3⟩ := hv; rw [road_4 hr0 hs0b (by omega), z3, fol_ng ha9.1 (by omega) h133]) (by obtain ⟨s0, z1, z2, z3⟩ := hv; have h9 := road_4 (D := D) (n := n) (mi := mi) (E := E) hr0 hs0b (by omega); rw [roadX_n h9 (by rw [z3, fol_ng ha9.1 (by omega) h133]; omega)]; exact (hT.nu.ob.was.s hR)))
                          · exact absurd h163 (by omega)
                        · exact absurd h95 (by omega)
                      · refine j_goto (pc' := 93) dX12_road_136 (by decide) ?_
                        refine j_forget 5 (L' := [some (aR 53), some (aI d), some (aI (wrR sh d 0)), some (aI (c + 1)), some (aI 0), none, some (aI (E d a)), some (aB (sf (E d) (sh 4 d) a < 0))]) rfl ?_
                        refine j_forget 6 (L' := [some (aR 53), some (aI d), some (aI (wrR sh d 0)), some (aI (c + 1)), some (aI 0), none, none, some (aB (sf (E d) (sh 4 d) a < 0))]) rfl ?_
                        refine j_forget 7 (L' := [some (aR 53), some (aI d), some (aI (wrR sh d 0)), some (aI (c + 1)), some (aI 0), none, none, none]) rfl ?_
                        exact ih93 _ (by omega) v2 p2 Y3 ((stq (E d) a x).2) k1 (by omega) (by exact stp_ok hx) (by exact hY3 h133) (by omega) (by rw [ffN_n (by omega) (by omega)] at hf1; rw [hp2e]; exact hf1) (by obtain ⟨s0, z1, z2, z3⟩ := hv; refine ⟨s0 + 1, by omega, ?_, ?_⟩; (rw [cn_s (by omega)] at z2; rw [hp2e]; omega); (rw [z3, fol_y (by omega) h133, hp2e])) rfl
              refine j_w (w' := up (up (up (up w 58 (eI 4 v1)) 53 (eO 11 [aR 54, aR 55, aR 56, aR 57, aI hi, aI 0, aI (100 * d), aI (sh 4 d), aR 58, aR 59, aR 60, aI fm, aI se, aR 61, aR 62, aR 63, aR 64, aR 65, aR 66, aI th])) 57 (eI 48 S)) 54 (eI 48 S)) (by funext j9; simp only [up]; (repeat' split) <;> first | rfl | (subst_vars; assumption) | (exfalso; omega)) ?_
              exact lp93 _ v1 0 S (D, n, mi) ((sh 4 d).toNat) (by omega) (by exact ⟨hB, hwd⟩) (by exact hR) (by omega) (by exact hffn) (by exact ⟨0, by omega, by omega, rfl⟩) rfl
        · have hp1e : p1 = sf (E d) (sh 4 d) a := by rw [hp1, if_neg (by omega)]
          have hffv : formF (E d) (sh 4 d) = sf (E d) (sh 4 d) a := by rw [hv, if_pos (by omega)]
          refine j_sipush (pc' := 51) dX12_road_48 rfl (by decide) ?_
          refine j_aload_n (pc' := 52) (z := 53) dX12_road_51 rfl rfl ?_
          refine j_get (pc' := 55) (v := aI p1) dX12_road_52 rfl f_Mod_85 (by omega) up_s rfl ?_
          refine j_isub (pc' := 56) dX12_road_55 rfl ?_
          refine j_istore (pc' := 58) (L' := [some (aR 53), some (aI d), some (aI (wrR sh d 0)), some (aI c), some (aI ((-1000) - p1)), none, none, none]) dX12_road_56 rfl (by decide) rfl ?_
          refine j_iinc (pc' := 61) (z := c) (L' := [some (aR 53), some (aI d), some (aI (wrR sh d 0)), some (aI (c + 1)), some (aI ((-1000) - p1)), none, none, none]) dX12_road_58 rfl (by decide) rfl rfl rfl ?_
          refine j_iload (pc' := 63) (z := ((-1000) - p1)) dX12_road_61 rfl rfl ?_
          refine j_if_ne (tgt := 77) (pc' := 66) dX12_road_63 (by decide) rfl (by omega) (fun h63 => ?_) (fun h63 => ?_)
          · refine j_aload_n (pc' := 78) (z := 53) dX12_road_77 rfl rfl ?_
            refine j_get (pc' := 81) (v := aR 54) dX12_road_78 rfl f_Mod_9 (by omega) up_s rfl ?_
            refine j_aload_n (pc' := 82) (z := 53) dX12_road_81 rfl rfl ?_
            refine j_get (pc' := 85) (v := aR 57) dX12_road_82 rfl f_Mod_19 (by omega) up_s rfl ?_
            refine j_callS (pc' := 88) (as := [aR 54, aR 57]) (rest := []) dX12_road_85 rfl s_Mod_134 (c_Mod_lays ((up_n (by omega)).trans ((up_n (by omega)).trans hS)) ((up_n (by omega)).trans ((up_n (by omega)).trans hSw)) (by omega) (by omega) (by omega)) rfl rfl rfl (jdet (st' := []) rfl ?_)
            refine j_aload_n (pc' := 89) (z := 53) dX12_road_88 rfl rfl ?_
            refine j_iconst (pc' := 90) dX12_road_89 rfl ?_
            refine j_putI (pc' := 93) dX12_road_90 rfl p_Mod_85 (by omega) ((up_n (by omega)).trans up_s) (Nat.le_of_ble_eq_true rfl) ?_
            refine j_w (w' := up (up (up w 58 (eI 4 v1)) 53 (eO 11 [aR 54, aR 55, aR 56, aR 57, aI hi, aI 0, aI (100 * d), aI (sh 4 d), aR 58, aR 59, aR 60, aI fm, aI se, aR 61, aR 62, aR 63, aR 64, aR 65, aR 66, aI th])) 57 (eI 48 S)) (by funext j9; simp only [up]; (repeat' split) <;> first | rfl | (exfalso; omega)) ?_
            refine j_iload (pc' := 95) (z := ((-1000) - p1)) dX12_road_93 rfl rfl ?_
            refine j_if_ne (tgt := 161) (pc' := 98) dX12_road_95 (by decide) rfl (by omega) (fun h95 => ?_) (fun h95 => ?_)
            · refine j_iload (pc' := 163) (z := ((-1000) - p1)) dX12_road_161 rfl rfl ?_
              refine j_if_ne (tgt := 170) (pc' := 166) dX12_road_163 (by decide) rfl (by omega) (fun h163 => ?_) (fun h163 => ?_)
              · refine j_iload (pc' := 172) (z := ((-1000) - p1)) dX12_road_170 rfl rfl ?_
                exact j_iret dX12_road_172 rfl (jM_of (by rw [road_3 hr0 hs0b (by omega), hffv, ← hp1e]) (by have h9 := road_3 (D := D) (n := n) (mi := mi) (E := E) hr0 hs0b (by omega); rw [roadX_n h9 (by omega)]; exact hT.nu.ob.was))
              · exact absurd h163 (by omega)
            · exact absurd h95 (by omega)
          · exact absurd h63 (by omega)
    refine j_w (w' := up (up w 58 (eI 4 nu)) 53 (eO 11 [aR 54, aR 55, aR 56, aR 57, aI hi, aI 0, aI (100 * d), aI (sh 4 d), aR 58, aR 59, aR 60, aI fm, aI se, aR 61, aR 62, aR 63, aR 64, aR 65, aR 66, aI th])) (by funext j9; simp only [up]; (repeat' split) <;> first | rfl | (subst_vars; exact hnu) | (exfalso; omega)) ?_
    exact lp41 _ nu 0 0 ((sh 4 d).toNat - 1) (by omega) (by omega) (by omega) (by exact ff_0 q5) (by intro z; exact cn_0 z) (by omega) rfl
  · refine j_iload_n (pc' := 12) (z := (wrR sh d 0)) dX12_road_11 rfl rfl ?_
    exact j_iret dX12_road_12 rfl (jM_of (by have hneg : wrR sh d 0 = roadA D n mi sh E d := (by rw [hw0]; by_cases z : rowR sh d = 0; (rw [if_pos z]; rw [hw0, if_pos z] at h8; by_cases z2 : sh 3 d = 0; (rw [if_pos z2] at h8; exact absurd rfl h8); (rw [if_neg z2, road_2 z z2])); (rw [if_neg z, road_1 z])); exact hneg) (by have hneg : roadA D n mi sh E d = wrR sh d 0 := (by rw [hw0]; by_cases z : rowR sh d = 0; (rw [if_pos z]; rw [hw0, if_pos z] at h8; by_cases z2 : sh 3 d = 0; (rw [if_pos z2] at h8; exact absurd rfl h8); (rw [if_neg z2, road_2 z z2])); (rw [if_neg z, road_1 z])); rw [roadX_n hneg (by omega)]; exact hT))
