theorem up_comm {w : AW} {q p : Nat} {e f : AE} (h : q ≠ p) : up (up w q e) p f = up (up w p f) q e := by
  funext j; simp only [up]; (repeat' split) <;> first | rfl | (exfalso; omega)
def NumOK (v E : Int → Int) (a : Int) : Prop := (E a = 112 → ∀ j, 0 ≤ j ∧ j ≤ 3 → v j = E (a + 1 + j) - 48) ∧ (E a ≠ 112 → v 0 = numF E (a + 1) (digB (E a)))
theorem numF1 {E : Int → Int} {x : Int} : numF E x 1 = E x - 48 := by
  have e : numF E x 1 = 10 * 0 + E (x + 0) - 48 := rfl
  rw [e, Int.add_zero]; omega
theorem numF4 {E : Int → Int} {b : Int} : numF E b 4 = 10 * (10 * (10 * (E (b + 0) - 48) + (E (b + 1) - 48)) + (E (b + 2) - 48)) + (E (b + 3) - 48) := by
  have e : numF E b 4 = 10 * (10 * (10 * (10 * 0 + E (b + 0) - 48) + E (b + 1) - 48) + E (b + 2) - 48) + E (b + 3) - 48 := rfl
  omega
theorem NumOK_p {nu E : Int → Int} {a v1 v2 v3 v4 : Int} (h : E a = 112) (h1 : v1 = numF E (a + 1) 1) (h2 : v2 = numF E (a + 1 + 1) 1) (h3 : v3 = numF E (a + 1 + 1 + 1) 1) (h4 : v4 = numF E (a + 1 + 1 + 1 + 1) 1) : NumOK (upi (upi (upi (upi nu 0 v1) 1 v2) 2 v3) 3 v4) E a := by
  refine ⟨fun _ j hj => ?_, fun q => absurd h q⟩
  rw [numF1] at h1 h2 h3 h4
  rcases (show j = 0 ∨ j = 1 ∨ j = 2 ∨ j = 3 by omega) with rfl | rfl | rfl | rfl
  · rw [upi_n (by omega), upi_n (by omega), upi_n (by omega), upi_s, h1, Int.add_zero]
  · rw [upi_n (by omega), upi_n (by omega), upi_s, h2]
  · rw [upi_n (by omega), upi_s, h3, show a + 1 + 1 + 1 = a + 1 + 2 by omega]
  · rw [upi_s, h4, show a + 1 + 1 + 1 + 1 = a + 1 + 3 by omega]
theorem NumOK_1 {nu E : Int → Int} {a v1 m : Int} (h : ¬ E a = 112) (hm : digB (E a) = m) (h1 : v1 = numF E (a + 1) m) : NumOK (upi nu 0 v1) E a := by
  refine ⟨fun q => absurd q h, fun _ => ?_⟩
  rw [upi_s, hm]; exact h1
theorem sf_1 {E : Int → Int} {re a : Int} (ha : a < re) (hd : digB (E a) = 1) : sf E re a = if rdp E re (Int.toNat 1) (a + 1) = a + 1 + 1 then (if a + 1 + 1 < re ∧ E (a + 1 + 1) = 59 then -1 else a + 1 + 1) else rdp E re (Int.toNat 1) (a + 1) := by
  unfold sf
  rw [if_pos ⟨ha, by omega⟩, hd, sfr_rdp]; rfl
theorem sf_2 {E : Int → Int} {re a : Int} (ha : a < re) (hd : digB (E a) = 2) : sf E re a = if rdp E re (Int.toNat 2) (a + 1) = a + 1 + 2 then (if a + 1 + 2 < re ∧ E (a + 1 + 2) = 59 then -1 else a + 1 + 2) else rdp E re (Int.toNat 2) (a + 1) := by
  unfold sf
  rw [if_pos ⟨ha, by omega⟩, hd, sfr_rdp]; rfl
theorem rdp_1 {E : Int → Int} {re i : Int} : rdp E re (Int.toNat 1) i = if i < re ∧ (48 ≤ E i ∧ E i ≤ 57) then i + 1 else i := by
  show rdp E re (0 + 1) i = _
  rw [rdp]; rfl
theorem sf_4 {E : Int → Int} {re a : Int} (ha : a < re) (hd : digB (E a) = 4) : sf E re a = if rdp E re (Int.toNat 1) (a + 1) = a + 1 + 1 then (if rdp E re (Int.toNat 1) (a + 1 + 1) = a + 1 + 1 + 1 then (if rdp E re (Int.toNat 1) (a + 1 + 1 + 1) = a + 1 + 1 + 1 + 1 then (if rdp E re (Int.toNat 1) (a + 1 + 1 + 1 + 1) = a + 1 + 1 + 1 + 1 + 1 then (if a + 1 + 1 + 1 + 1 + 1 < re ∧ E (a + 1 + 1 + 1 + 1 + 1) = 59 then -1 else a + 1 + 1 + 1 + 1 + 1) else rdp E re (Int.toNat 1) (a + 1 + 1 + 1 + 1)) else rdp E re (Int.toNat 1) (a + 1 + 1 + 1)) else rdp E re (Int.toNat 1) (a + 1 + 1)) else rdp E re (Int.toNat 1) (a + 1) := by
  unfold sf
  rw [if_pos ⟨ha, by omega⟩, hd]
  show sfr E re (3 + 1) (a + 1) = _
  rw [rdp_1]
  by_cases c1 : a + 1 < re ∧ (48 ≤ E (a + 1) ∧ E (a + 1) ≤ 57)
  · rw [if_pos c1, if_pos rfl, sfr_sy c1, rdp_1]
    by_cases c2 : a + 1 + 1 < re ∧ (48 ≤ E (a + 1 + 1) ∧ E (a + 1 + 1) ≤ 57)
    · rw [if_pos c2, if_pos rfl]
      show sfr E re (2 + 1) (a + 1 + 1) = _
      rw [sfr_sy c2, rdp_1]
      by_cases c3 : a + 1 + 1 + 1 < re ∧ (48 ≤ E (a + 1 + 1 + 1) ∧ E (a + 1 + 1 + 1) ≤ 57)
      · rw [if_pos c3, if_pos rfl]
        show sfr E re (1 + 1) (a + 1 + 1 + 1) = _
        rw [sfr_sy c3, rdp_1]
        by_cases c4 : a + 1 + 1 + 1 + 1 < re ∧ (48 ≤ E (a + 1 + 1 + 1 + 1) ∧ E (a + 1 + 1 + 1 + 1) ≤ 57)
        · rw [if_pos c4, if_pos rfl]
          show sfr E re (0 + 1) (a + 1 + 1 + 1 + 1) = _
          rw [sfr_sy c4]; rfl
        · rw [if_neg c4, if_neg (by omega)]
          show sfr E re (0 + 1) (a + 1 + 1 + 1 + 1) = _
          rw [sfr_sn c4]
      · rw [if_neg c3, if_neg (by omega)]
        show sfr E re (1 + 1) (a + 1 + 1 + 1) = _
        rw [sfr_sn c3]
    · rw [if_neg c2, if_neg (by omega)]
      show sfr E re (2 + 1) (a + 1 + 1) = _
      rw [sfr_sn c2]
  · rw [if_neg c1, if_neg (by omega), sfr_sn c1]
theorem sf_0 {E : Int → Int} {re a : Int} (h : ¬ (a < re ∧ 0 < digB (E a))) : sf E re a = a := if_neg h
set_option maxRecDepth 100000 in
set_option maxHeartbeats 4000000 in
theorem c_Mod_readsStatement {l : Launch} {w : AW} {el E nu : Int → Int} {hi a ra re fm se th : Int} (hO : w 53 = mOb hi a ra re fm se th) (hel : w 66 = eI 800 el) (hX : TX el E ra re) (hnu : w 58 = eI 4 nu) (ha : 0 ≤ a ∧ a ≤ 300) : Call l m_Mod_readsStatement false 68 68 [aR 53] w (fun r w9 => r = some (aB (sf E re a < 0)) ∧ ∃ v, w9 = up (up w 58 (eI 4 v)) 53 (mOb hi (if sf E re a < 0 then a + digB (E a) + 2 else sf E re a) ra re fm se th) ∧ (sf E re a < 0 → NumOK v E a)) := by
  have hx3 := hX.2.2
  have hby : a < re → -128 ≤ E a ∧ E a ≤ 127 := fun z => (hX.1 a (by omega)).2
  have hhb := her_bd (E := E) (re := re) (a := a)
  have hhv : a < re → herV E re a = E a % 256 := fun z => if_pos z
  refine Call.of (L := [some (aR 53), none, none]) rfl (Nat.le_of_ble_eq_true rfl) rfl (fun G ad => ?_)
  refine j_aload_n (pc' := 1) (z := 53) dX12_readsStatement_0 rfl rfl ?_
  refine j_callV (pc' := 4) (as := []) (rest := []) dX12_readsStatement_1 rfl s_Mod_95 (c_Mod_here hO hel hX (by omega)) (by omega) hO rfl rfl rfl rfl (jdet (st' := [aI (herV E re a)]) rfl ?_)
  refine j_istore_n (pc' := 5) (L' := [some (aR 53), some (aI (herV E re a)), none]) dX12_readsStatement_4 rfl (by decide) rfl ?_
  refine j_aload_n (pc' := 6) (z := 53) dX12_readsStatement_5 rfl rfl ?_
  refine j_dup (pc' := 7) dX12_readsStatement_6 rfl rfl ?_
  refine j_get (pc' := 10) (v := aI a) dX12_readsStatement_7 rfl f_Mod_85 (by omega) hO rfl ?_
  refine j_iconst (pc' := 11) dX12_readsStatement_10 rfl ?_
  refine j_iadd (pc' := 12) dX12_readsStatement_11 rfl ?_
  refine j_putI (pc' := 15) dX12_readsStatement_12 rfl p_Mod_85 (by omega) hO (Nat.le_of_ble_eq_true rfl) ?_
  refine j_w (w' := up w 53 (eO 11 [aR 54, aR 55, aR 56, aR 57, aI hi, aI (a + 1), aI ra, aI re, aR 58, aR 59, aR 60, aI fm, aI se, aR 61, aR 62, aR 63, aR 64, aR 65, aR 66, aI th])) rfl ?_
  refine j_iload_n (pc' := 16) (z := (herV E re a)) dX12_readsStatement_15 rfl rfl ?_
  have hx16 : -2147483648 ≤ herV E re a ∧ herV E re a ≤ 2147483647 := (by omega)
  rcases (show herV E re a = 99 ∨ herV E re a = 100 ∨ herV E re a = 101 ∨ herV E re a = 102 ∨ herV E re a = 103 ∨ herV E re a = 104 ∨ herV E re a = 105 ∨ herV E re a = 106 ∨ herV E re a = 107 ∨ herV E re a = 108 ∨ herV E re a = 109 ∨ herV E re a = 110 ∨ herV E re a = 111 ∨ herV E re a = 112 ∨ herV E re a = 113 ∨ herV E re a = 114 ∨ herV E re a = 115 ∨ herV E re a = 116 ∨ herV E re a = 117 ∨ herV E re a = 118 ∨ herV E re a = 119 ∨ (herV E re a < 99 ∨ 119 < herV E re a) by omega) with h16 | h16 | h16 | h16 | h16 | h16 | h16 | h16 | h16 | h16 | h16 | h16 | h16 | h16 | h16 | h16 | h16 | h16 | h16 | h16 | h16 | h16
  · refine j_tsw (tgt := 171) dX12_readsStatement_16 hx16 (by omega) (by rw [h16]; rfl) (by decide) ?_
    obtain ⟨hlt, hEc⟩ := (her_c hby (by omega)).mp h16
    have hdg : digB (E a) = 1 := by rw [hEc]; decide
    refine j_aload_n (pc' := 172) (z := 53) dX12_readsStatement_171 rfl rfl ?_
    refine j_iconst (pc' := 173) dX12_readsStatement_172 rfl ?_
    refine j_iconst (pc' := 174) dX12_readsStatement_173 rfl ?_
    refine j_callV (pc' := 177) (as := [aI 0, aI 1]) (rest := []) dX12_readsStatement_174 rfl s_Mod_99 (c_Mod_readsNumber up_s ((up_n (by omega)).trans hel) hX ((up_n (by omega)).trans hnu) (k := 0) (m := 1) (by omega) (by omega) (by omega)) (by omega) up_s rfl rfl rfl rfl (fun r9 w9 h9 => ?_)
    obtain ⟨rfl, v1, rfl, hv1⟩ := h9
    have hrb1 := rdp_bd (E := E) (re := re) (Int.toNat 1) (a + 1)
    refine j_st (st' := [aB (rdp E re (Int.toNat 1) (a + 1) = a + 1 + 1)]) rfl ?_
    refine j_w (w' := up (up w 53 (eO 11 [aR 54, aR 55, aR 56, aR 57, aI hi, aI (rdp E re (Int.toNat 1) (a + 1)), aI ra, aI re, aR 58, aR 59, aR 60, aI fm, aI se, aR 61, aR 62, aR 63, aR 64, aR 65, aR 66, aI th])) 58 (eI 4 (upi nu 0 v1))) (by funext j9; simp only [up]; (repeat' split) <;> first | rfl | (exfalso; omega)) ?_
    refine j_istore_n (pc' := 178) (L' := [some (aR 53), some (aI (herV E re a)), some (aB (rdp E re (Int.toNat 1) (a + 1) = a + 1 + 1))]) dX12_readsStatement_177 rfl (by decide) rfl ?_
    refine j_goto (pc' := 193) dX12_readsStatement_178 (by decide) ?_
    refine j_iload_n (pc' := 194) (z := (if rdp E re (Int.toNat 1) (a + 1) = a + 1 + 1 then 1 else 0)) dX12_readsStatement_193 rfl rfl ?_
    refine j_ifb_eq (tgt := 206) (pc' := 197) dX12_readsStatement_194 (by decide) rfl (fun h194 => ?_) (fun h194 => ?_)
    · refine j_iconst (pc' := 207) dX12_readsStatement_206 rfl ?_
      have hsf : sf E re a = rdp E re (Int.toNat 1) (a + 1) := by rw [sf_1 hlt hdg]; (repeat' split) <;> first | rfl | (exfalso; omega)
      exact j_zret0 dX12_readsStatement_207 rfl ⟨(rt_b0 (w0 := w) (by omega)).1, upi nu 0 v1, by rw [if_neg (by omega), hsf]; exact up_comm (by decide), fun q => by omega⟩
    · refine j_w (w' := up (up w 53 (eO 11 [aR 54, aR 55, aR 56, aR 57, aI hi, aI (a + 1 + 1), aI ra, aI re, aR 58, aR 59, aR 60, aI fm, aI se, aR 61, aR 62, aR 63, aR 64, aR 65, aR 66, aI th])) 58 (eI 4 (upi nu 0 v1))) (by rw [h194]) ?_
      refine j_aload_n (pc' := 198) (z := 53) dX12_readsStatement_197 rfl rfl ?_
      refine j_callV (pc' := 201) (as := []) (rest := []) dX12_readsStatement_198 rfl s_Mod_95 (c_Mod_here ((up_n (by omega)).trans up_s) ((up_n (by omega)).trans ((up_n (by omega)).trans hel)) hX (by omega)) (by omega) ((up_n (by omega)).trans up_s) rfl rfl rfl rfl (jdet (st' := [aI (herV E re (a + 1 + 1))]) rfl ?_)
      have hby2 : a + 1 + 1 < re → -128 ≤ E (a + 1 + 1) ∧ E (a + 1 + 1) ≤ 127 := fun z => (hX.1 _ (by omega)).2
      have hhb2 := her_bd (E := E) (re := re) (a := a + 1 + 1)
      have hsc := her_c (c := 59) hby2 (by omega)
      refine j_bipush (pc' := 203) dX12_readsStatement_201 rfl (by decide) ?_
      refine j_icmp_eq (tgt := 208) (pc' := 206) dX12_readsStatement_203 (by decide) rfl (by omega) (by omega) (fun h203 => ?_) (fun h203 => ?_)
      · refine j_aload_n (pc' := 209) (z := 53) dX12_readsStatement_208 rfl rfl ?_
        refine j_dup (pc' := 210) dX12_readsStatement_209 rfl rfl ?_
        refine j_get (pc' := 213) (v := aI (a + 1 + 1)) dX12_readsStatement_210 rfl f_Mod_85 (by omega) ((up_n (by omega)).trans up_s) rfl ?_
        refine j_iconst (pc' := 214) dX12_readsStatement_213 rfl ?_
        refine j_iadd (pc' := 215) dX12_readsStatement_214 rfl ?_
        refine j_putI (pc' := 218) dX12_readsStatement_215 rfl p_Mod_85 (by omega) ((up_n (by omega)).trans up_s) (Nat.le_of_ble_eq_true rfl) ?_
        refine j_w (w' := up (up w 53 (eO 11 [aR 54, aR 55, aR 56, aR 57, aI hi, aI ((a + 1 + 1) + 1), aI ra, aI re, aR 58, aR 59, aR 60, aI fm, aI se, aR 61, aR 62, aR 63, aR 64, aR 65, aR 66, aI th])) 58 (eI 4 (upi nu 0 v1))) (by funext j9; simp only [up]; (repeat' split) <;> first | rfl | (exfalso; omega)) ?_
        refine j_iconst (pc' := 219) dX12_readsStatement_218 rfl ?_
        have hsf : sf E re a = -1 := by rw [sf_1 hlt hdg]; (repeat' split) <;> first | rfl | (exfalso; omega)
        exact j_zret1 dX12_readsStatement_219 rfl ⟨(rt_b1 (w0 := w) (by omega)).1, upi nu 0 v1, by rw [if_pos (by omega), show a + digB (E a) + 2 = (a + 1 + 1) + 1 by omega]; exact up_comm (by decide), fun _ => NumOK_1 (by omega) hdg (hv1 (by omega))⟩
      · refine j_iconst (pc' := 207) dX12_readsStatement_206 rfl ?_
        have hsf : sf E re a = a + 1 + 1 := by rw [sf_1 hlt hdg]; (repeat' split) <;> first | rfl | (exfalso; omega)
        exact j_zret0 dX12_readsStatement_207 rfl ⟨(rt_b0 (w0 := w) (by omega)).1, upi nu 0 v1, by rw [if_neg (by omega), hsf]; exact up_comm (by decide), fun q => by omega⟩
  · refine j_tsw (tgt := 161) dX12_readsStatement_16 hx16 (by omega) (by rw [h16]; rfl) (by decide) ?_
    obtain ⟨hlt, hEc⟩ := (her_c hby (by omega)).mp h16
    have hdg : digB (E a) = 2 := by rw [hEc]; decide
    refine j_aload_n (pc' := 162) (z := 53) dX12_readsStatement_161 rfl rfl ?_
    refine j_iconst (pc' := 163) dX12_readsStatement_162 rfl ?_
    refine j_iconst (pc' := 164) dX12_readsStatement_163 rfl ?_
    refine j_callV (pc' := 167) (as := [aI 0, aI 2]) (rest := []) dX12_readsStatement_164 rfl s_Mod_99 (c_Mod_readsNumber up_s ((up_n (by omega)).trans hel) hX ((up_n (by omega)).trans hnu) (k := 0) (m := 2) (by omega) (by omega) (by omega)) (by omega) up_s rfl rfl rfl rfl (fun r9 w9 h9 => ?_)
    obtain ⟨rfl, v2, rfl, hv2⟩ := h9
    have hrb2 := rdp_bd (E := E) (re := re) (Int.toNat 2) (a + 1)
    refine j_st (st' := [aB (rdp E re (Int.toNat 2) (a + 1) = a + 1 + 2)]) rfl ?_
    refine j_w (w' := up (up w 53 (eO 11 [aR 54, aR 55, aR 56, aR 57, aI hi, aI (rdp E re (Int.toNat 2) (a + 1)), aI ra, aI re, aR 58, aR 59, aR 60, aI fm, aI se, aR 61, aR 62, aR 63, aR 64, aR 65, aR 66, aI th])) 58 (eI 4 (upi nu 0 v2))) (by funext j9; simp only [up]; (repeat' split) <;> first | rfl | (exfalso; omega)) ?_
    refine j_istore_n (pc' := 168) (L' := [some (aR 53), some (aI (herV E re a)), some (aB (rdp E re (Int.toNat 2) (a + 1) = a + 1 + 2))]) dX12_readsStatement_167 rfl (by decide) rfl ?_
    refine j_goto (pc' := 193) dX12_readsStatement_168 (by decide) ?_
    refine j_iload_n (pc' := 194) (z := (if rdp E re (Int.toNat 2) (a + 1) = a + 1 + 2 then 1 else 0)) dX12_readsStatement_193 rfl rfl ?_
    refine j_ifb_eq (tgt := 206) (pc' := 197) dX12_readsStatement_194 (by decide) rfl (fun h194 => ?_) (fun h194 => ?_)
    · refine j_iconst (pc' := 207) dX12_readsStatement_206 rfl ?_
      have hsf : sf E re a = rdp E re (Int.toNat 2) (a + 1) := by rw [sf_2 hlt hdg]; (repeat' split) <;> first | rfl | (exfalso; omega)
      exact j_zret0 dX12_readsStatement_207 rfl ⟨(rt_b0 (w0 := w) (by omega)).1, upi nu 0 v2, by rw [if_neg (by omega), hsf]; exact up_comm (by decide), fun q => by omega⟩
    · refine j_w (w' := up (up w 53 (eO 11 [aR 54, aR 55, aR 56, aR 57, aI hi, aI (a + 1 + 2), aI ra, aI re, aR 58, aR 59, aR 60, aI fm, aI se, aR 61, aR 62, aR 63, aR 64, aR 65, aR 66, aI th])) 58 (eI 4 (upi nu 0 v2))) (by rw [h194]) ?_
      refine j_aload_n (pc' := 198) (z := 53) dX12_readsStatement_197 rfl rfl ?_
      refine j_callV (pc' := 201) (as := []) (rest := []) dX12_readsStatement_198 rfl s_Mod_95 (c_Mod_here ((up_n (by omega)).trans up_s) ((up_n (by omega)).trans ((up_n (by omega)).trans hel)) hX (by omega)) (by omega) ((up_n (by omega)).trans up_s) rfl rfl rfl rfl (jdet (st' := [aI (herV E re (a + 1 + 2))]) rfl ?_)
      have hby2 : a + 1 + 2 < re → -128 ≤ E (a + 1 + 2) ∧ E (a + 1 + 2) ≤ 127 := fun z => (hX.1 _ (by omega)).2
      have hhb2 := her_bd (E := E) (re := re) (a := a + 1 + 2)
      have hsc := her_c (c := 59) hby2 (by omega)
      refine j_bipush (pc' := 203) dX12_readsStatement_201 rfl (by decide) ?_
      refine j_icmp_eq (tgt := 208) (pc' := 206) dX12_readsStatement_203 (by decide) rfl (by omega) (by omega) (fun h203 => ?_) (fun h203 => ?_)
      · refine j_aload_n (pc' := 209) (z := 53) dX12_readsStatement_208 rfl rfl ?_
        refine j_dup (pc' := 210) dX12_readsStatement_209 rfl rfl ?_
        refine j_get (pc' := 213) (v := aI (a + 1 + 2)) dX12_readsStatement_210 rfl f_Mod_85 (by omega) ((up_n (by omega)).trans up_s) rfl ?_
        refine j_iconst (pc' := 214) dX12_readsStatement_213 rfl ?_
        refine j_iadd (pc' := 215) dX12_readsStatement_214 rfl ?_
        refine j_putI (pc' := 218) dX12_readsStatement_215 rfl p_Mod_85 (by omega) ((up_n (by omega)).trans up_s) (Nat.le_of_ble_eq_true rfl) ?_
        refine j_w (w' := up (up w 53 (eO 11 [aR 54, aR 55, aR 56, aR 57, aI hi, aI ((a + 1 + 2) + 1), aI ra, aI re, aR 58, aR 59, aR 60, aI fm, aI se, aR 61, aR 62, aR 63, aR 64, aR 65, aR 66, aI th])) 58 (eI 4 (upi nu 0 v2))) (by funext j9; simp only [up]; (repeat' split) <;> first | rfl | (exfalso; omega)) ?_
        refine j_iconst (pc' := 219) dX12_readsStatement_218 rfl ?_
        have hsf : sf E re a = -1 := by rw [sf_2 hlt hdg]; (repeat' split) <;> first | rfl | (exfalso; omega)
        exact j_zret1 dX12_readsStatement_219 rfl ⟨(rt_b1 (w0 := w) (by omega)).1, upi nu 0 v2, by rw [if_pos (by omega), show a + digB (E a) + 2 = (a + 1 + 2) + 1 by omega]; exact up_comm (by decide), fun _ => NumOK_1 (by omega) hdg (hv2 (by omega))⟩
      · refine j_iconst (pc' := 207) dX12_readsStatement_206 rfl ?_
        have hsf : sf E re a = a + 1 + 2 := by rw [sf_2 hlt hdg]; (repeat' split) <;> first | rfl | (exfalso; omega)
        exact j_zret0 dX12_readsStatement_207 rfl ⟨(rt_b0 (w0 := w) (by omega)).1, upi nu 0 v2, by rw [if_neg (by omega), hsf]; exact up_comm (by decide), fun q => by omega⟩
  · refine j_tsw (tgt := 181) dX12_readsStatement_16 hx16 (by omega) (by rw [h16]; rfl) (by decide) ?_
    refine j_aload_n (pc' := 182) (z := 53) dX12_readsStatement_181 rfl rfl ?_
    refine j_dup (pc' := 183) dX12_readsStatement_182 rfl rfl ?_
    refine j_get (pc' := 186) (v := aI (a + 1)) dX12_readsStatement_183 rfl f_Mod_85 (by omega) up_s rfl ?_
    refine j_iconst (pc' := 187) dX12_readsStatement_186 rfl ?_
    refine j_isub (pc' := 188) dX12_readsStatement_187 rfl ?_
    refine j_putI (pc' := 191) dX12_readsStatement_188 rfl p_Mod_85 (by omega) up_s (Nat.le_of_ble_eq_true rfl) ?_
    refine j_w (w' := up w 53 (eO 11 [aR 54, aR 55, aR 56, aR 57, aI hi, aI ((a + 1) - 1), aI ra, aI re, aR 58, aR 59, aR 60, aI fm, aI se, aR 61, aR 62, aR 63, aR 64, aR 65, aR 66, aI th])) (by funext j9; simp only [up]; (repeat' split) <;> first | rfl | (exfalso; omega)) ?_
    refine j_iconst (pc' := 192) dX12_readsStatement_191 rfl ?_
    have hsf : sf E re a = a := sf_0 (fun q => by have h1 := q.1; have h2 := digB_let q.2; have h3 := hhv h1; have h4 := hby h1; omega)
    exact j_zret0 dX12_readsStatement_192 rfl ⟨(rt_b0 (w0 := w) (by omega)).1, nu, by rw [if_neg (by omega), hsf, show (a + 1) - 1 = a by omega]; funext j9; simp only [up]; (repeat' split) <;> first | rfl | (subst_vars; exact hnu) | (exfalso; omega), fun q => by omega⟩
  · refine j_tsw (tgt := 181) dX12_readsStatement_16 hx16 (by omega) (by rw [h16]; rfl) (by decide) ?_
    refine j_aload_n (pc' := 182) (z := 53) dX12_readsStatement_181 rfl rfl ?_
    refine j_dup (pc' := 183) dX12_readsStatement_182 rfl rfl ?_
    refine j_get (pc' := 186) (v := aI (a + 1)) dX12_readsStatement_183 rfl f_Mod_85 (by omega) up_s rfl ?_
    refine j_iconst (pc' := 187) dX12_readsStatement_186 rfl ?_
    refine j_isub (pc' := 188) dX12_readsStatement_187 rfl ?_
    refine j_putI (pc' := 191) dX12_readsStatement_188 rfl p_Mod_85 (by omega) up_s (Nat.le_of_ble_eq_true rfl) ?_
    refine j_w (w' := up w 53 (eO 11 [aR 54, aR 55, aR 56, aR 57, aI hi, aI ((a + 1) - 1), aI ra, aI re, aR 58, aR 59, aR 60, aI fm, aI se, aR 61, aR 62, aR 63, aR 64, aR 65, aR 66, aI th])) (by funext j9; simp only [up]; (repeat' split) <;> first | rfl | (exfalso; omega)) ?_
    refine j_iconst (pc' := 192) dX12_readsStatement_191 rfl ?_
    have hsf : sf E re a = a := sf_0 (fun q => by have h1 := q.1; have h2 := digB_let q.2; have h3 := hhv h1; have h4 := hby h1; omega)
    exact j_zret0 dX12_readsStatement_192 rfl ⟨(rt_b0 (w0 := w) (by omega)).1, nu, by rw [if_neg (by omega), hsf, show (a + 1) - 1 = a by omega]; funext j9; simp only [up]; (repeat' split) <;> first | rfl | (subst_vars; exact hnu) | (exfalso; omega), fun q => by omega⟩
  · refine j_tsw (tgt := 181) dX12_readsStatement_16 hx16 (by omega) (by rw [h16]; rfl) (by decide) ?_
    refine j_aload_n (pc' := 182) (z := 53) dX12_readsStatement_181 rfl rfl ?_
    refine j_dup (pc' := 183) dX12_readsStatement_182 rfl rfl ?_
    refine j_get (pc' := 186) (v := aI (a + 1)) dX12_readsStatement_183 rfl f_Mod_85 (by omega) up_s rfl ?_
    refine j_iconst (pc' := 187) dX12_readsStatement_186 rfl ?_
    refine j_isub (pc' := 188) dX12_readsStatement_187 rfl ?_
    refine j_putI (pc' := 191) dX12_readsStatement_188 rfl p_Mod_85 (by omega) up_s (Nat.le_of_ble_eq_true rfl) ?_
    refine j_w (w' := up w 53 (eO 11 [aR 54, aR 55, aR 56, aR 57, aI hi, aI ((a + 1) - 1), aI ra, aI re, aR 58, aR 59, aR 60, aI fm, aI se, aR 61, aR 62, aR 63, aR 64, aR 65, aR 66, aI th])) (by funext j9; simp only [up]; (repeat' split) <;> first | rfl | (exfalso; omega)) ?_
    refine j_iconst (pc' := 192) dX12_readsStatement_191 rfl ?_
    have hsf : sf E re a = a := sf_0 (fun q => by have h1 := q.1; have h2 := digB_let q.2; have h3 := hhv h1; have h4 := hby h1; omega)
    exact j_zret0 dX12_readsStatement_192 rfl ⟨(rt_b0 (w0 := w) (by omega)).1, nu, by rw [if_neg (by omega), hsf, show (a + 1) - 1 = a by omega]; funext j9; simp only [up]; (repeat' split) <;> first | rfl | (subst_vars; exact hnu) | (exfalso; omega), fun q => by omega⟩
  · refine j_tsw (tgt := 171) dX12_readsStatement_16 hx16 (by omega) (by rw [h16]; rfl) (by decide) ?_
    obtain ⟨hlt, hEc⟩ := (her_c hby (by omega)).mp h16
    have hdg : digB (E a) = 1 := by rw [hEc]; decide
    refine j_aload_n (pc' := 172) (z := 53) dX12_readsStatement_171 rfl rfl ?_
    refine j_iconst (pc' := 173) dX12_readsStatement_172 rfl ?_
    refine j_iconst (pc' := 174) dX12_readsStatement_173 rfl ?_
    refine j_callV (pc' := 177) (as := [aI 0, aI 1]) (rest := []) dX12_readsStatement_174 rfl s_Mod_99 (c_Mod_readsNumber up_s ((up_n (by omega)).trans hel) hX ((up_n (by omega)).trans hnu) (k := 0) (m := 1) (by omega) (by omega) (by omega)) (by omega) up_s rfl rfl rfl rfl (fun r9 w9 h9 => ?_)
    obtain ⟨rfl, v3, rfl, hv3⟩ := h9
    have hrb3 := rdp_bd (E := E) (re := re) (Int.toNat 1) (a + 1)
    refine j_st (st' := [aB (rdp E re (Int.toNat 1) (a + 1) = a + 1 + 1)]) rfl ?_
    refine j_w (w' := up (up w 53 (eO 11 [aR 54, aR 55, aR 56, aR 57, aI hi, aI (rdp E re (Int.toNat 1) (a + 1)), aI ra, aI re, aR 58, aR 59, aR 60, aI fm, aI se, aR 61, aR 62, aR 63, aR 64, aR 65, aR 66, aI th])) 58 (eI 4 (upi nu 0 v3))) (by funext j9; simp only [up]; (repeat' split) <;> first | rfl | (exfalso; omega)) ?_
    refine j_istore_n (pc' := 178) (L' := [some (aR 53), some (aI (herV E re a)), some (aB (rdp E re (Int.toNat 1) (a + 1) = a + 1 + 1))]) dX12_readsStatement_177 rfl (by decide) rfl ?_
    refine j_goto (pc' := 193) dX12_readsStatement_178 (by decide) ?_
    refine j_iload_n (pc' := 194) (z := (if rdp E re (Int.toNat 1) (a + 1) = a + 1 + 1 then 1 else 0)) dX12_readsStatement_193 rfl rfl ?_
    refine j_ifb_eq (tgt := 206) (pc' := 197) dX12_readsStatement_194 (by decide) rfl (fun h194 => ?_) (fun h194 => ?_)
    · refine j_iconst (pc' := 207) dX12_readsStatement_206 rfl ?_
      have hsf : sf E re a = rdp E re (Int.toNat 1) (a + 1) := by rw [sf_1 hlt hdg]; (repeat' split) <;> first | rfl | (exfalso; omega)
      exact j_zret0 dX12_readsStatement_207 rfl ⟨(rt_b0 (w0 := w) (by omega)).1, upi nu 0 v3, by rw [if_neg (by omega), hsf]; exact up_comm (by decide), fun q => by omega⟩
    · refine j_w (w' := up (up w 53 (eO 11 [aR 54, aR 55, aR 56, aR 57, aI hi, aI (a + 1 + 1), aI ra, aI re, aR 58, aR 59, aR 60, aI fm, aI se, aR 61, aR 62, aR 63, aR 64, aR 65, aR 66, aI th])) 58 (eI 4 (upi nu 0 v3))) (by rw [h194]) ?_
      refine j_aload_n (pc' := 198) (z := 53) dX12_readsStatement_197 rfl rfl ?_
      refine j_callV (pc' := 201) (as := []) (rest := []) dX12_readsStatement_198 rfl s_Mod_95 (c_Mod_here ((up_n (by omega)).trans up_s) ((up_n (by omega)).trans ((up_n (by omega)).trans hel)) hX (by omega)) (by omega) ((up_n (by omega)).trans up_s) rfl rfl rfl rfl (jdet (st' := [aI (herV E re (a + 1 + 1))]) rfl ?_)
      have hby2 : a + 1 + 1 < re → -128 ≤ E (a + 1 + 1) ∧ E (a + 1 + 1) ≤ 127 := fun z => (hX.1 _ (by omega)).2
      have hhb2 := her_bd (E := E) (re := re) (a := a + 1 + 1)
      have hsc := her_c (c := 59) hby2 (by omega)
      refine j_bipush (pc' := 203) dX12_readsStatement_201 rfl (by decide) ?_
      refine j_icmp_eq (tgt := 208) (pc' := 206) dX12_readsStatement_203 (by decide) rfl (by omega) (by omega) (fun h203 => ?_) (fun h203 => ?_)
      · refine j_aload_n (pc' := 209) (z := 53) dX12_readsStatement_208 rfl rfl ?_
        refine j_dup (pc' := 210) dX12_readsStatement_209 rfl rfl ?_
        refine j_get (pc' := 213) (v := aI (a + 1 + 1)) dX12_readsStatement_210 rfl f_Mod_85 (by omega) ((up_n (by omega)).trans up_s) rfl ?_
        refine j_iconst (pc' := 214) dX12_readsStatement_213 rfl ?_
        refine j_iadd (pc' := 215) dX12_readsStatement_214 rfl ?_
        refine j_putI (pc' := 218) dX12_readsStatement_215 rfl p_Mod_85 (by omega) ((up_n (by omega)).trans up_s) (Nat.le_of_ble_eq_true rfl) ?_
        refine j_w (w' := up (up w 53 (eO 11 [aR 54, aR 55, aR 56, aR 57, aI hi, aI ((a + 1 + 1) + 1), aI ra, aI re, aR 58, aR 59, aR 60, aI fm, aI se, aR 61, aR 62, aR 63, aR 64, aR 65, aR 66, aI th])) 58 (eI 4 (upi nu 0 v3))) (by funext j9; simp only [up]; (repeat' split) <;> first | rfl | (exfalso; omega)) ?_
        refine j_iconst (pc' := 219) dX12_readsStatement_218 rfl ?_
        have hsf : sf E re a = -1 := by rw [sf_1 hlt hdg]; (repeat' split) <;> first | rfl | (exfalso; omega)
        exact j_zret1 dX12_readsStatement_219 rfl ⟨(rt_b1 (w0 := w) (by omega)).1, upi nu 0 v3, by rw [if_pos (by omega), show a + digB (E a) + 2 = (a + 1 + 1) + 1 by omega]; exact up_comm (by decide), fun _ => NumOK_1 (by omega) hdg (hv3 (by omega))⟩
      · refine j_iconst (pc' := 207) dX12_readsStatement_206 rfl ?_
        have hsf : sf E re a = a + 1 + 1 := by rw [sf_1 hlt hdg]; (repeat' split) <;> first | rfl | (exfalso; omega)
        exact j_zret0 dX12_readsStatement_207 rfl ⟨(rt_b0 (w0 := w) (by omega)).1, upi nu 0 v3, by rw [if_neg (by omega), hsf]; exact up_comm (by decide), fun q => by omega⟩
  · refine j_tsw (tgt := 181) dX12_readsStatement_16 hx16 (by omega) (by rw [h16]; rfl) (by decide) ?_
    refine j_aload_n (pc' := 182) (z := 53) dX12_readsStatement_181 rfl rfl ?_
    refine j_dup (pc' := 183) dX12_readsStatement_182 rfl rfl ?_
    refine j_get (pc' := 186) (v := aI (a + 1)) dX12_readsStatement_183 rfl f_Mod_85 (by omega) up_s rfl ?_
    refine j_iconst (pc' := 187) dX12_readsStatement_186 rfl ?_
    refine j_isub (pc' := 188) dX12_readsStatement_187 rfl ?_
    refine j_putI (pc' := 191) dX12_readsStatement_188 rfl p_Mod_85 (by omega) up_s (Nat.le_of_ble_eq_true rfl) ?_
    refine j_w (w' := up w 53 (eO 11 [aR 54, aR 55, aR 56, aR 57, aI hi, aI ((a + 1) - 1), aI ra, aI re, aR 58, aR 59, aR 60, aI fm, aI se, aR 61, aR 62, aR 63, aR 64, aR 65, aR 66, aI th])) (by funext j9; simp only [up]; (repeat' split) <;> first | rfl | (exfalso; omega)) ?_
    refine j_iconst (pc' := 192) dX12_readsStatement_191 rfl ?_
    have hsf : sf E re a = a := sf_0 (fun q => by have h1 := q.1; have h2 := digB_let q.2; have h3 := hhv h1; have h4 := hby h1; omega)
    exact j_zret0 dX12_readsStatement_192 rfl ⟨(rt_b0 (w0 := w) (by omega)).1, nu, by rw [if_neg (by omega), hsf, show (a + 1) - 1 = a by omega]; funext j9; simp only [up]; (repeat' split) <;> first | rfl | (subst_vars; exact hnu) | (exfalso; omega), fun q => by omega⟩
  · refine j_tsw (tgt := 181) dX12_readsStatement_16 hx16 (by omega) (by rw [h16]; rfl) (by decide) ?_
    refine j_aload_n (pc' := 182) (z := 53) dX12_readsStatement_181 rfl rfl ?_
    refine j_dup (pc' := 183) dX12_readsStatement_182 rfl rfl ?_
    refine j_get (pc' := 186) (v := aI (a + 1)) dX12_readsStatement_183 rfl f_Mod_85 (by omega) up_s rfl ?_
    refine j_iconst (pc' := 187) dX12_readsStatement_186 rfl ?_
    refine j_isub (pc' := 188) dX12_readsStatement_187 rfl ?_
    refine j_putI (pc' := 191) dX12_readsStatement_188 rfl p_Mod_85 (by omega) up_s (Nat.le_of_ble_eq_true rfl) ?_
    refine j_w (w' := up w 53 (eO 11 [aR 54, aR 55, aR 56, aR 57, aI hi, aI ((a + 1) - 1), aI ra, aI re, aR 58, aR 59, aR 60, aI fm, aI se, aR 61, aR 62, aR 63, aR 64, aR 65, aR 66, aI th])) (by funext j9; simp only [up]; (repeat' split) <;> first | rfl | (exfalso; omega)) ?_
    refine j_iconst (pc' := 192) dX12_readsStatement_191 rfl ?_
    have hsf : sf E re a = a := sf_0 (fun q => by have h1 := q.1; have h2 := digB_let q.2; have h3 := hhv h1; have h4 := hby h1; omega)
    exact j_zret0 dX12_readsStatement_192 rfl ⟨(rt_b0 (w0 := w) (by omega)).1, nu, by rw [if_neg (by omega), hsf, show (a + 1) - 1 = a by omega]; funext j9; simp only [up]; (repeat' split) <;> first | rfl | (subst_vars; exact hnu) | (exfalso; omega), fun q => by omega⟩
  · refine j_tsw (tgt := 181) dX12_readsStatement_16 hx16 (by omega) (by rw [h16]; rfl) (by decide) ?_
    refine j_aload_n (pc' := 182) (z := 53) dX12_readsStatement_181 rfl rfl ?_
    refine j_dup (pc' := 183) dX12_readsStatement_182 rfl rfl ?_
    refine j_get (pc' := 186) (v := aI (a + 1)) dX12_readsStatement_183 rfl f_Mod_85 (by omega) up_s rfl ?_
    refine j_iconst (pc' := 187) dX12_readsStatement_186 rfl ?_
    refine j_isub (pc' := 188) dX12_readsStatement_187 rfl ?_
    refine j_putI (pc' := 191) dX12_readsStatement_188 rfl p_Mod_85 (by omega) up_s (Nat.le_of_ble_eq_true rfl) ?_
    refine j_w (w' := up w 53 (eO 11 [aR 54, aR 55, aR 56, aR 57, aI hi, aI ((a + 1) - 1), aI ra, aI re, aR 58, aR 59, aR 60, aI fm, aI se, aR 61, aR 62, aR 63, aR 64, aR 65, aR 66, aI th])) (by funext j9; simp only [up]; (repeat' split) <;> first | rfl | (exfalso; omega)) ?_
    refine j_iconst (pc' := 192) dX12_readsStatement_191 rfl ?_
    have hsf : sf E re a = a := sf_0 (fun q => by have h1 := q.1; have h2 := digB_let q.2; have h3 := hhv h1; have h4 := hby h1; omega)
    exact j_zret0 dX12_readsStatement_192 rfl ⟨(rt_b0 (w0 := w) (by omega)).1, nu, by rw [if_neg (by omega), hsf, show (a + 1) - 1 = a by omega]; funext j9; simp only [up]; (repeat' split) <;> first | rfl | (subst_vars; exact hnu) | (exfalso; omega), fun q => by omega⟩
  · refine j_tsw (tgt := 171) dX12_readsStatement_16 hx16 (by omega) (by rw [h16]; rfl) (by decide) ?_
    obtain ⟨hlt, hEc⟩ := (her_c hby (by omega)).mp h16
    have hdg : digB (E a) = 1 := by rw [hEc]; decide
    refine j_aload_n (pc' := 172) (z := 53) dX12_readsStatement_171 rfl rfl ?_
    refine j_iconst (pc' := 173) dX12_readsStatement_172 rfl ?_
    refine j_iconst (pc' := 174) dX12_readsStatement_173 rfl ?_
    refine j_callV (pc' := 177) (as := [aI 0, aI 1]) (rest := []) dX12_readsStatement_174 rfl s_Mod_99 (c_Mod_readsNumber up_s ((up_n (by omega)).trans hel) hX ((up_n (by omega)).trans hnu) (k := 0) (m := 1) (by omega) (by omega) (by omega)) (by omega) up_s rfl rfl rfl rfl (fun r9 w9 h9 => ?_)
    obtain ⟨rfl, v4, rfl, hv4⟩ := h9
    have hrb4 := rdp_bd (E := E) (re := re) (Int.toNat 1) (a + 1)
    refine j_st (st' := [aB (rdp E re (Int.toNat 1) (a + 1) = a + 1 + 1)]) rfl ?_
    refine j_w (w' := up (up w 53 (eO 11 [aR 54, aR 55, aR 56, aR 57, aI hi, aI (rdp E re (Int.toNat 1) (a + 1)), aI ra, aI re, aR 58, aR 59, aR 60, aI fm, aI se, aR 61, aR 62, aR 63, aR 64, aR 65, aR 66, aI th])) 58 (eI 4 (upi nu 0 v4))) (by funext j9; simp only [up]; (repeat' split) <;> first | rfl | (exfalso; omega)) ?_
    refine j_istore_n (pc' := 178) (L' := [some (aR 53), some (aI (herV E re a)), some (aB (rdp E re (Int.toNat 1) (a + 1) = a + 1 + 1))]) dX12_readsStatement_177 rfl (by decide) rfl ?_
    refine j_goto (pc' := 193) dX12_readsStatement_178 (by decide) ?_
    refine j_iload_n (pc' := 194) (z := (if rdp E re (Int.toNat 1) (a + 1) = a + 1 + 1 then 1 else 0)) dX12_readsStatement_193 rfl rfl ?_
    refine j_ifb_eq (tgt := 206) (pc' := 197) dX12_readsStatement_194 (by decide) rfl (fun h194 => ?_) (fun h194 => ?_)
    · refine j_iconst (pc' := 207) dX12_readsStatement_206 rfl ?_
      have hsf : sf E re a = rdp E re (Int.toNat 1) (a + 1) := by rw [sf_1 hlt hdg]; (repeat' split) <;> first | rfl | (exfalso; omega)
      exact j_zret0 dX12_readsStatement_207 rfl ⟨(rt_b0 (w0 := w) (by omega)).1, upi nu 0 v4, by rw [if_neg (by omega), hsf]; exact up_comm (by decide), fun q => by omega⟩
    · refine j_w (w' := up (up w 53 (eO 11 [aR 54, aR 55, aR 56, aR 57, aI hi, aI (a + 1 + 1), aI ra, aI re, aR 58, aR 59, aR 60, aI fm, aI se, aR 61, aR 62, aR 63, aR 64, aR 65, aR 66, aI th])) 58 (eI 4 (upi nu 0 v4))) (by rw [h194]) ?_
      refine j_aload_n (pc' := 198) (z := 53) dX12_readsStatement_197 rfl rfl ?_
      refine j_callV (pc' := 201) (as := []) (rest := []) dX12_readsStatement_198 rfl s_Mod_95 (c_Mod_here ((up_n (by omega)).trans up_s) ((up_n (by omega)).trans ((up_n (by omega)).trans hel)) hX (by omega)) (by omega) ((up_n (by omega)).trans up_s) rfl rfl rfl rfl (jdet (st' := [aI (herV E re (a + 1 + 1))]) rfl ?_)
      have hby2 : a + 1 + 1 < re → -128 ≤ E (a + 1 + 1) ∧ E (a + 1 + 1) ≤ 127 := fun z => (hX.1 _ (by omega)).2
      have hhb2 := her_bd (E := E) (re := re) (a := a + 1 + 1)
      have hsc := her_c (c := 59) hby2 (by omega)
      refine j_bipush (pc' := 203) dX12_readsStatement_201 rfl (by decide) ?_
      refine j_icmp_eq (tgt := 208) (pc' := 206) dX12_readsStatement_203 (by decide) rfl (by omega) (by omega) (fun h203 => ?_) (fun h203 => ?_)
      · refine j_aload_n (pc' := 209) (z := 53) dX12_readsStatement_208 rfl rfl ?_
        refine j_dup (pc' := 210) dX12_readsStatement_209 rfl rfl ?_
        refine j_get (pc' := 213) (v := aI (a + 1 + 1)) dX12_readsStatement_210 rfl f_Mod_85 (by omega) ((up_n (by omega)).trans up_s) rfl ?_
        refine j_iconst (pc' := 214) dX12_readsStatement_213 rfl ?_
        refine j_iadd (pc' := 215) dX12_readsStatement_214 rfl ?_
        refine j_putI (pc' := 218) dX12_readsStatement_215 rfl p_Mod_85 (by omega) ((up_n (by omega)).trans up_s) (Nat.le_of_ble_eq_true rfl) ?_
        refine j_w (w' := up (up w 53 (eO 11 [aR 54, aR 55, aR 56, aR 57, aI hi, aI ((a + 1 + 1) + 1), aI ra, aI re, aR 58, aR 59, aR 60, aI fm, aI se, aR 61, aR 62, aR 63, aR 64, aR 65, aR 66, aI th])) 58 (eI 4 (upi nu 0 v4))) (by funext j9; simp only [up]; (repeat' split) <;> first | rfl | (exfalso; omega)) ?_
        refine j_iconst (pc' := 219) dX12_readsStatement_218 rfl ?_
        have hsf : sf E re a = -1 := by rw [sf_1 hlt hdg]; (repeat' split) <;> first | rfl | (exfalso; omega)
        exact j_zret1 dX12_readsStatement_219 rfl ⟨(rt_b1 (w0 := w) (by omega)).1, upi nu 0 v4, by rw [if_pos (by omega), show a + digB (E a) + 2 = (a + 1 + 1) + 1 by omega]; exact up_comm (by decide), fun _ => NumOK_1 (by omega) hdg (hv4 (by omega))⟩
      · refine j_iconst (pc' := 207) dX12_readsStatement_206 rfl ?_
        have hsf : sf E re a = a + 1 + 1 := by rw [sf_1 hlt hdg]; (repeat' split) <;> first | rfl | (exfalso; omega)
        exact j_zret0 dX12_readsStatement_207 rfl ⟨(rt_b0 (w0 := w) (by omega)).1, upi nu 0 v4, by rw [if_neg (by omega), hsf]; exact up_comm (by decide), fun q => by omega⟩
  · refine j_tsw (tgt := 181) dX12_readsStatement_16 hx16 (by omega) (by rw [h16]; rfl) (by decide) ?_
    refine j_aload_n (pc' := 182) (z := 53) dX12_readsStatement_181 rfl rfl ?_
    refine j_dup (pc' := 183) dX12_readsStatement_182 rfl rfl ?_
    refine j_get (pc' := 186) (v := aI (a + 1)) dX12_readsStatement_183 rfl f_Mod_85 (by omega) up_s rfl ?_
    refine j_iconst (pc' := 187) dX12_readsStatement_186 rfl ?_
    refine j_isub (pc' := 188) dX12_readsStatement_187 rfl ?_
    refine j_putI (pc' := 191) dX12_readsStatement_188 rfl p_Mod_85 (by omega) up_s (Nat.le_of_ble_eq_true rfl) ?_
    refine j_w (w' := up w 53 (eO 11 [aR 54, aR 55, aR 56, aR 57, aI hi, aI ((a + 1) - 1), aI ra, aI re, aR 58, aR 59, aR 60, aI fm, aI se, aR 61, aR 62, aR 63, aR 64, aR 65, aR 66, aI th])) (by funext j9; simp only [up]; (repeat' split) <;> first | rfl | (exfalso; omega)) ?_
    refine j_iconst (pc' := 192) dX12_readsStatement_191 rfl ?_
    have hsf : sf E re a = a := sf_0 (fun q => by have h1 := q.1; have h2 := digB_let q.2; have h3 := hhv h1; have h4 := hby h1; omega)
    exact j_zret0 dX12_readsStatement_192 rfl ⟨(rt_b0 (w0 := w) (by omega)).1, nu, by rw [if_neg (by omega), hsf, show (a + 1) - 1 = a by omega]; funext j9; simp only [up]; (repeat' split) <;> first | rfl | (subst_vars; exact hnu) | (exfalso; omega), fun q => by omega⟩
  · refine j_tsw (tgt := 181) dX12_readsStatement_16 hx16 (by omega) (by rw [h16]; rfl) (by decide) ?_
    refine j_aload_n (pc' := 182) (z := 53) dX12_readsStatement_181 rfl rfl ?_
    refine j_dup (pc' := 183) dX12_readsStatement_182 rfl rfl ?_
    refine j_get (pc' := 186) (v := aI (a + 1)) dX12_readsStatement_183 rfl f_Mod_85 (by omega) up_s rfl ?_
    refine j_iconst (pc' := 187) dX12_readsStatement_186 rfl ?_
    refine j_isub (pc' := 188) dX12_readsStatement_187 rfl ?_
    refine j_putI (pc' := 191) dX12_readsStatement_188 rfl p_Mod_85 (by omega) up_s (Nat.le_of_ble_eq_true rfl) ?_
    refine j_w (w' := up w 53 (eO 11 [aR 54, aR 55, aR 56, aR 57, aI hi, aI ((a + 1) - 1), aI ra, aI re, aR 58, aR 59, aR 60, aI fm, aI se, aR 61, aR 62, aR 63, aR 64, aR 65, aR 66, aI th])) (by funext j9; simp only [up]; (repeat' split) <;> first | rfl | (exfalso; omega)) ?_
    refine j_iconst (pc' := 192) dX12_readsStatement_191 rfl ?_
    have hsf : sf E re a = a := sf_0 (fun q => by have h1 := q.1; have h2 := digB_let q.2; have h3 := hhv h1; have h4 := hby h1; omega)
    exact j_zret0 dX12_readsStatement_192 rfl ⟨(rt_b0 (w0 := w) (by omega)).1, nu, by rw [if_neg (by omega), hsf, show (a + 1) - 1 = a by omega]; funext j9; simp only [up]; (repeat' split) <;> first | rfl | (subst_vars; exact hnu) | (exfalso; omega), fun q => by omega⟩
  · refine j_tsw (tgt := 171) dX12_readsStatement_16 hx16 (by omega) (by rw [h16]; rfl) (by decide) ?_
    obtain ⟨hlt, hEc⟩ := (her_c hby (by omega)).mp h16
    have hdg : digB (E a) = 1 := by rw [hEc]; decide
    refine j_aload_n (pc' := 172) (z := 53) dX12_readsStatement_171 rfl rfl ?_
    refine j_iconst (pc' := 173) dX12_readsStatement_172 rfl ?_
    refine j_iconst (pc' := 174) dX12_readsStatement_173 rfl ?_
    refine j_callV (pc' := 177) (as := [aI 0, aI 1]) (rest := []) dX12_readsStatement_174 rfl s_Mod_99 (c_Mod_readsNumber up_s ((up_n (by omega)).trans hel) hX ((up_n (by omega)).trans hnu) (k := 0) (m := 1) (by omega) (by omega) (by omega)) (by omega) up_s rfl rfl rfl rfl (fun r9 w9 h9 => ?_)
    obtain ⟨rfl, v5, rfl, hv5⟩ := h9
    have hrb5 := rdp_bd (E := E) (re := re) (Int.toNat 1) (a + 1)
    refine j_st (st' := [aB (rdp E re (Int.toNat 1) (a + 1) = a + 1 + 1)]) rfl ?_
    refine j_w (w' := up (up w 53 (eO 11 [aR 54, aR 55, aR 56, aR 57, aI hi, aI (rdp E re (Int.toNat 1) (a + 1)), aI ra, aI re, aR 58, aR 59, aR 60, aI fm, aI se, aR 61, aR 62, aR 63, aR 64, aR 65, aR 66, aI th])) 58 (eI 4 (upi nu 0 v5))) (by funext j9; simp only [up]; (repeat' split) <;> first | rfl | (exfalso; omega)) ?_
    refine j_istore_n (pc' := 178) (L' := [some (aR 53), some (aI (herV E re a)), some (aB (rdp E re (Int.toNat 1) (a + 1) = a + 1 + 1))]) dX12_readsStatement_177 rfl (by decide) rfl ?_
    refine j_goto (pc' := 193) dX12_readsStatement_178 (by decide) ?_
    refine j_iload_n (pc' := 194) (z := (if rdp E re (Int.toNat 1) (a + 1) = a + 1 + 1 then 1 else 0)) dX12_readsStatement_193 rfl rfl ?_
    refine j_ifb_eq (tgt := 206) (pc' := 197) dX12_readsStatement_194 (by decide) rfl (fun h194 => ?_) (fun h194 => ?_)
    · refine j_iconst (pc' := 207) dX12_readsStatement_206 rfl ?_
      have hsf : sf E re a = rdp E re (Int.toNat 1) (a + 1) := by rw [sf_1 hlt hdg]; (repeat' split) <;> first | rfl | (exfalso; omega)
      exact j_zret0 dX12_readsStatement_207 rfl ⟨(rt_b0 (w0 := w) (by omega)).1, upi nu 0 v5, by rw [if_neg (by omega), hsf]; exact up_comm (by decide), fun q => by omega⟩
    · refine j_w (w' := up (up w 53 (eO 11 [aR 54, aR 55, aR 56, aR 57, aI hi, aI (a + 1 + 1), aI ra, aI re, aR 58, aR 59, aR 60, aI fm, aI se, aR 61, aR 62, aR 63, aR 64, aR 65, aR 66, aI th])) 58 (eI 4 (upi nu 0 v5))) (by rw [h194]) ?_
      refine j_aload_n (pc' := 198) (z := 53) dX12_readsStatement_197 rfl rfl ?_
      refine j_callV (pc' := 201) (as := []) (rest := []) dX12_readsStatement_198 rfl s_Mod_95 (c_Mod_here ((up_n (by omega)).trans up_s) ((up_n (by omega)).trans ((up_n (by omega)).trans hel)) hX (by omega)) (by omega) ((up_n (by omega)).trans up_s) rfl rfl rfl rfl (jdet (st' := [aI (herV E re (a + 1 + 1))]) rfl ?_)
      have hby2 : a + 1 + 1 < re → -128 ≤ E (a + 1 + 1) ∧ E (a + 1 + 1) ≤ 127 := fun z => (hX.1 _ (by omega)).2
      have hhb2 := her_bd (E := E) (re := re) (a := a + 1 + 1)
      have hsc := her_c (c := 59) hby2 (by omega)
      refine j_bipush (pc' := 203) dX12_readsStatement_201 rfl (by decide) ?_
      refine j_icmp_eq (tgt := 208) (pc' := 206) dX12_readsStatement_203 (by decide) rfl (by omega) (by omega) (fun h203 => ?_) (fun h203 => ?_)
      · refine j_aload_n (pc' := 209) (z := 53) dX12_readsStatement_208 rfl rfl ?_
        refine j_dup (pc' := 210) dX12_readsStatement_209 rfl rfl ?_
        refine j_get (pc' := 213) (v := aI (a + 1 + 1)) dX12_readsStatement_210 rfl f_Mod_85 (by omega) ((up_n (by omega)).trans up_s) rfl ?_
        refine j_iconst (pc' := 214) dX12_readsStatement_213 rfl ?_
        refine j_iadd (pc' := 215) dX12_readsStatement_214 rfl ?_
        refine j_putI (pc' := 218) dX12_readsStatement_215 rfl p_Mod_85 (by omega) ((up_n (by omega)).trans up_s) (Nat.le_of_ble_eq_true rfl) ?_
        refine j_w (w' := up (up w 53 (eO 11 [aR 54, aR 55, aR 56, aR 57, aI hi, aI ((a + 1 + 1) + 1), aI ra, aI re, aR 58, aR 59, aR 60, aI fm, aI se, aR 61, aR 62, aR 63, aR 64, aR 65, aR 66, aI th])) 58 (eI 4 (upi nu 0 v5))) (by funext j9; simp only [up]; (repeat' split) <;> first | rfl | (exfalso; omega)) ?_
        refine j_iconst (pc' := 219) dX12_readsStatement_218 rfl ?_
        have hsf : sf E re a = -1 := by rw [sf_1 hlt hdg]; (repeat' split) <;> first | rfl | (exfalso; omega)
        exact j_zret1 dX12_readsStatement_219 rfl ⟨(rt_b1 (w0 := w) (by omega)).1, upi nu 0 v5, by rw [if_pos (by omega), show a + digB (E a) + 2 = (a + 1 + 1) + 1 by omega]; exact up_comm (by decide), fun _ => NumOK_1 (by omega) hdg (hv5 (by omega))⟩
      · refine j_iconst (pc' := 207) dX12_readsStatement_206 rfl ?_
        have hsf : sf E re a = a + 1 + 1 := by rw [sf_1 hlt hdg]; (repeat' split) <;> first | rfl | (exfalso; omega)
        exact j_zret0 dX12_readsStatement_207 rfl ⟨(rt_b0 (w0 := w) (by omega)).1, upi nu 0 v5, by rw [if_neg (by omega), hsf]; exact up_comm (by decide), fun q => by omega⟩
  · refine j_tsw (tgt := 116) dX12_readsStatement_16 hx16 (by omega) (by rw [h16]; rfl) (by decide) ?_
    obtain ⟨hlt, hEc⟩ := (her_c hby (by omega)).mp h16
    have hdg : digB (E a) = 4 := by rw [hEc]; decide
    refine j_aload_n (pc' := 117) (z := 53) dX12_readsStatement_116 rfl rfl ?_
    refine j_iconst (pc' := 118) dX12_readsStatement_117 rfl ?_
    refine j_iconst (pc' := 119) dX12_readsStatement_118 rfl ?_
    refine j_callV (pc' := 122) (as := [aI 0, aI 1]) (rest := []) dX12_readsStatement_119 rfl s_Mod_99 (c_Mod_readsNumber up_s ((up_n (by omega)).trans hel) hX ((up_n (by omega)).trans hnu) (k := 0) (m := 1) (by omega) (by omega) (by omega)) (by omega) up_s rfl rfl rfl rfl (fun r9 w9 h9 => ?_)
    obtain ⟨rfl, v6, rfl, hv6⟩ := h9
    have hrb6 := rdp_bd (E := E) (re := re) (Int.toNat 1) (a + 1)
    refine j_st (st' := [aB (rdp E re (Int.toNat 1) (a + 1) = a + 1 + 1)]) rfl ?_
    refine j_w (w' := up (up w 53 (eO 11 [aR 54, aR 55, aR 56, aR 57, aI hi, aI (rdp E re (Int.toNat 1) (a + 1)), aI ra, aI re, aR 58, aR 59, aR 60, aI fm, aI se, aR 61, aR 62, aR 63, aR 64, aR 65, aR 66, aI th])) 58 (eI 4 (upi nu 0 v6))) (by funext j9; simp only [up]; (repeat' split) <;> first | rfl | (exfalso; omega)) ?_
    refine j_ifb_eq (tgt := 156) (pc' := 125) dX12_readsStatement_122 (by decide) rfl (fun h122 => ?_) (fun h122 => ?_)
    · refine j_iconst (pc' := 157) dX12_readsStatement_156 rfl ?_
      refine j_istore_n (pc' := 158) (L' := [some (aR 53), some (aI (herV E re a)), some (aI 0)]) dX12_readsStatement_157 rfl (by decide) rfl ?_
      refine j_goto (pc' := 193) dX12_readsStatement_158 (by decide) ?_
      refine j_iload_n (pc' := 194) (z := 0) dX12_readsStatement_193 rfl rfl ?_
      refine j_if_eq (tgt := 206) (pc' := 197) dX12_readsStatement_194 (by decide) rfl (by omega) (fun h194 => ?_) (fun h194 => ?_)
      · refine j_iconst (pc' := 207) dX12_readsStatement_206 rfl ?_
        have hsf : sf E re a = rdp E re (Int.toNat 1) (a + 1) := by rw [sf_4 hlt hdg]; (repeat' split) <;> first | rfl | (exfalso; omega)
        exact j_zret0 dX12_readsStatement_207 rfl ⟨(rt_b0 (w0 := w) (by omega)).1, upi nu 0 v6, by rw [if_neg (by omega), hsf]; exact up_comm (by decide), fun q => by omega⟩
      · exact absurd rfl h194
    · refine j_w (w' := up (up w 53 (eO 11 [aR 54, aR 55, aR 56, aR 57, aI hi, aI (a + 1 + 1), aI ra, aI re, aR 58, aR 59, aR 60, aI fm, aI se, aR 61, aR 62, aR 63, aR 64, aR 65, aR 66, aI th])) 58 (eI 4 (upi nu 0 v6))) (by rw [h122]) ?_
      refine j_aload_n (pc' := 126) (z := 53) dX12_readsStatement_125 rfl rfl ?_
      refine j_iconst (pc' := 127) dX12_readsStatement_126 rfl ?_
      refine j_iconst (pc' := 128) dX12_readsStatement_127 rfl ?_
      refine j_callV (pc' := 131) (as := [aI 1, aI 1]) (rest := []) dX12_readsStatement_128 rfl s_Mod_99 (c_Mod_readsNumber ((up_n (by omega)).trans up_s) ((up_n (by omega)).trans ((up_n (by omega)).trans hel)) hX up_s (k := 1) (m := 1) (by omega) (by omega) (by omega)) (by omega) ((up_n (by omega)).trans up_s) rfl rfl rfl rfl (fun r9 w9 h9 => ?_)
      obtain ⟨rfl, v7, rfl, hv7⟩ := h9
      have hrb7 := rdp_bd (E := E) (re := re) (Int.toNat 1) (a + 1 + 1)
      refine j_st (st' := [aB (rdp E re (Int.toNat 1) (a + 1 + 1) = a + 1 + 1 + 1)]) rfl ?_
      refine j_w (w' := up (up w 53 (eO 11 [aR 54, aR 55, aR 56, aR 57, aI hi, aI (rdp E re (Int.toNat 1) (a + 1 + 1)), aI ra, aI re, aR 58, aR 59, aR 60, aI fm, aI se, aR 61, aR 62, aR 63, aR 64, aR 65, aR 66, aI th])) 58 (eI 4 (upi (upi nu 0 v6) 1 v7))) (by funext j9; simp only [up]; (repeat' split) <;> first | rfl | (exfalso; omega)) ?_
      refine j_ifb_eq (tgt := 156) (pc' := 134) dX12_readsStatement_131 (by decide) rfl (fun h131 => ?_) (fun h131 => ?_)
      · refine j_iconst (pc' := 157) dX12_readsStatement_156 rfl ?_
        refine j_istore_n (pc' := 158) (L' := [some (aR 53), some (aI (herV E re a)), some (aI 0)]) dX12_readsStatement_157 rfl (by decide) rfl ?_
        refine j_goto (pc' := 193) dX12_readsStatement_158 (by decide) ?_
        refine j_iload_n (pc' := 194) (z := 0) dX12_readsStatement_193 rfl rfl ?_
        refine j_if_eq (tgt := 206) (pc' := 197) dX12_readsStatement_194 (by decide) rfl (by omega) (fun h194 => ?_) (fun h194 => ?_)
        · refine j_iconst (pc' := 207) dX12_readsStatement_206 rfl ?_
          have hsf : sf E re a = rdp E re (Int.toNat 1) (a + 1 + 1) := by rw [sf_4 hlt hdg]; (repeat' split) <;> first | rfl | (exfalso; omega)
          exact j_zret0 dX12_readsStatement_207 rfl ⟨(rt_b0 (w0 := w) (by omega)).1, upi (upi nu 0 v6) 1 v7, by rw [if_neg (by omega), hsf]; exact up_comm (by decide), fun q => by omega⟩
        · exact absurd rfl h194
      · refine j_w (w' := up (up w 53 (eO 11 [aR 54, aR 55, aR 56, aR 57, aI hi, aI (a + 1 + 1 + 1), aI ra, aI re, aR 58, aR 59, aR 60, aI fm, aI se, aR 61, aR 62, aR 63, aR 64, aR 65, aR 66, aI th])) 58 (eI 4 (upi (upi nu 0 v6) 1 v7))) (by rw [h131]) ?_
        refine j_aload_n (pc' := 135) (z := 53) dX12_readsStatement_134 rfl rfl ?_
        refine j_iconst (pc' := 136) dX12_readsStatement_135 rfl ?_
        refine j_iconst (pc' := 137) dX12_readsStatement_136 rfl ?_
        refine j_callV (pc' := 140) (as := [aI 2, aI 1]) (rest := []) dX12_readsStatement_137 rfl s_Mod_99 (c_Mod_readsNumber ((up_n (by omega)).trans up_s) ((up_n (by omega)).trans ((up_n (by omega)).trans hel)) hX up_s (k := 2) (m := 1) (by omega) (by omega) (by omega)) (by omega) ((up_n (by omega)).trans up_s) rfl rfl rfl rfl (fun r9 w9 h9 => ?_)
        obtain ⟨rfl, v8, rfl, hv8⟩ := h9
        have hrb8 := rdp_bd (E := E) (re := re) (Int.toNat 1) (a + 1 + 1 + 1)
        refine j_st (st' := [aB (rdp E re (Int.toNat 1) (a + 1 + 1 + 1) = a + 1 + 1 + 1 + 1)]) rfl ?_
        refine j_w (w' := up (up w 53 (eO 11 [aR 54, aR 55, aR 56, aR 57, aI hi, aI (rdp E re (Int.toNat 1) (a + 1 + 1 + 1)), aI ra, aI re, aR 58, aR 59, aR 60, aI fm, aI se, aR 61, aR 62, aR 63, aR 64, aR 65, aR 66, aI th])) 58 (eI 4 (upi (upi (upi nu 0 v6) 1 v7) 2 v8))) (by funext j9; simp only [up]; (repeat' split) <;> first | rfl | (exfalso; omega)) ?_
        refine j_ifb_eq (tgt := 156) (pc' := 143) dX12_readsStatement_140 (by decide) rfl (fun h140 => ?_) (fun h140 => ?_)
        · refine j_iconst (pc' := 157) dX12_readsStatement_156 rfl ?_
          refine j_istore_n (pc' := 158) (L' := [some (aR 53), some (aI (herV E re a)), some (aI 0)]) dX12_readsStatement_157 rfl (by decide) rfl ?_
          refine j_goto (pc' := 193) dX12_readsStatement_158 (by decide) ?_
          refine j_iload_n (pc' := 194) (z := 0) dX12_readsStatement_193 rfl rfl ?_
          refine j_if_eq (tgt := 206) (pc' := 197) dX12_readsStatement_194 (by decide) rfl (by omega) (fun h194 => ?_) (fun h194 => ?_)
          · refine j_iconst (pc' := 207) dX12_readsStatement_206 rfl ?_
            have hsf : sf E re a = rdp E re (Int.toNat 1) (a + 1 + 1 + 1) := by rw [sf_4 hlt hdg]; (repeat' split) <;> first | rfl | (exfalso; omega)
            exact j_zret0 dX12_readsStatement_207 rfl ⟨(rt_b0 (w0 := w) (by omega)).1, upi (upi (upi nu 0 v6) 1 v7) 2 v8, by rw [if_neg (by omega), hsf]; exact up_comm (by decide), fun q => by omega⟩
          · exact absurd rfl h194
        · refine j_w (w' := up (up w 53 (eO 11 [aR 54, aR 55, aR 56, aR 57, aI hi, aI (a + 1 + 1 + 1 + 1), aI ra, aI re, aR 58, aR 59, aR 60, aI fm, aI se, aR 61, aR 62, aR 63, aR 64, aR 65, aR 66, aI th])) 58 (eI 4 (upi (upi (upi nu 0 v6) 1 v7) 2 v8))) (by rw [h140]) ?_
          refine j_aload_n (pc' := 144) (z := 53) dX12_readsStatement_143 rfl rfl ?_
          refine j_iconst (pc' := 145) dX12_readsStatement_144 rfl ?_
          refine j_iconst (pc' := 146) dX12_readsStatement_145 rfl ?_
          refine j_callV (pc' := 149) (as := [aI 3, aI 1]) (rest := []) dX12_readsStatement_146 rfl s_Mod_99 (c_Mod_readsNumber ((up_n (by omega)).trans up_s) ((up_n (by omega)).trans ((up_n (by omega)).trans hel)) hX up_s (k := 3) (m := 1) (by omega) (by omega) (by omega)) (by omega) ((up_n (by omega)).trans up_s) rfl rfl rfl rfl (fun r9 w9 h9 => ?_)
          obtain ⟨rfl, v9, rfl, hv9⟩ := h9
          have hrb9 := rdp_bd (E := E) (re := re) (Int.toNat 1) (a + 1 + 1 + 1 + 1)
          refine j_st (st' := [aB (rdp E re (Int.toNat 1) (a + 1 + 1 + 1 + 1) = a + 1 + 1 + 1 + 1 + 1)]) rfl ?_
          refine j_w (w' := up (up w 53 (eO 11 [aR 54, aR 55, aR 56, aR 57, aI hi, aI (rdp E re (Int.toNat 1) (a + 1 + 1 + 1 + 1)), aI ra, aI re, aR 58, aR 59, aR 60, aI fm, aI se, aR 61, aR 62, aR 63, aR 64, aR 65, aR 66, aI th])) 58 (eI 4 (upi (upi (upi (upi nu 0 v6) 1 v7) 2 v8) 3 v9))) (by funext j9; simp only [up]; (repeat' split) <;> first | rfl | (exfalso; omega)) ?_
          refine j_ifb_eq (tgt := 156) (pc' := 152) dX12_readsStatement_149 (by decide) rfl (fun h149 => ?_) (fun h149 => ?_)
          · refine j_iconst (pc' := 157) dX12_readsStatement_156 rfl ?_
            refine j_istore_n (pc' := 158) (L' := [some (aR 53), some (aI (herV E re a)), some (aI 0)]) dX12_readsStatement_157 rfl (by decide) rfl ?_
            refine j_goto (pc' := 193) dX12_readsStatement_158 (by decide) ?_
            refine j_iload_n (pc' := 194) (z := 0) dX12_readsStatement_193 rfl rfl ?_
            refine j_if_eq (tgt := 206) (pc' := 197) dX12_readsStatement_194 (by decide) rfl (by omega) (fun h194 => ?_) (fun h194 => ?_)
            · refine j_iconst (pc' := 207) dX12_readsStatement_206 rfl ?_
              have hsf : sf E re a = rdp E re (Int.toNat 1) (a + 1 + 1 + 1 + 1) := by rw [sf_4 hlt hdg]; (repeat' split) <;> first | rfl | (exfalso; omega)
              exact j_zret0 dX12_readsStatement_207 rfl ⟨(rt_b0 (w0 := w) (by omega)).1, upi (upi (upi (upi nu 0 v6) 1 v7) 2 v8) 3 v9, by rw [if_neg (by omega), hsf]; exact up_comm (by decide), fun q => by omega⟩
            · exact absurd rfl h194
          · refine j_w (w' := up (up w 53 (eO 11 [aR 54, aR 55, aR 56, aR 57, aI hi, aI (a + 1 + 1 + 1 + 1 + 1), aI ra, aI re, aR 58, aR 59, aR 60, aI fm, aI se, aR 61, aR 62, aR 63, aR 64, aR 65, aR 66, aI th])) 58 (eI 4 (upi (upi (upi (upi nu 0 v6) 1 v7) 2 v8) 3 v9))) (by rw [h149]) ?_
            refine j_iconst (pc' := 153) dX12_readsStatement_152 rfl ?_
            refine j_goto (pc' := 157) dX12_readsStatement_153 (by decide) ?_
            refine j_istore_n (pc' := 158) (L' := [some (aR 53), some (aI (herV E re a)), some (aI 1)]) dX12_readsStatement_157 rfl (by decide) rfl ?_
            refine j_goto (pc' := 193) dX12_readsStatement_158 (by decide) ?_
            refine j_iload_n (pc' := 194) (z := 1) dX12_readsStatement_193 rfl rfl ?_
            refine j_if_eq (tgt := 206) (pc' := 197) dX12_readsStatement_194 (by decide) rfl (by omega) (fun h194 => ?_) (fun h194 => ?_)
            · exact absurd h194 (by decide)
            · refine j_aload_n (pc' := 198) (z := 53) dX12_readsStatement_197 rfl rfl ?_
              refine j_callV (pc' := 201) (as := []) (rest := []) dX12_readsStatement_198 rfl s_Mod_95 (c_Mod_here ((up_n (by omega)).trans up_s) ((up_n (by omega)).trans ((up_n (by omega)).trans hel)) hX (by omega)) (by omega) ((up_n (by omega)).trans up_s) rfl rfl rfl rfl (jdet (st' := [aI (herV E re (a + 1 + 1 + 1 + 1 + 1))]) rfl ?_)
              have hby2 : a + 1 + 1 + 1 + 1 + 1 < re → -128 ≤ E (a + 1 + 1 + 1 + 1 + 1) ∧ E (a + 1 + 1 + 1 + 1 + 1) ≤ 127 := fun z => (hX.1 _ (by omega)).2
              have hhb2 := her_bd (E := E) (re := re) (a := a + 1 + 1 + 1 + 1 + 1)
              have hsc := her_c (c := 59) hby2 (by omega)
              refine j_bipush (pc' := 203) dX12_readsStatement_201 rfl (by decide) ?_
              refine j_icmp_eq (tgt := 208) (pc' := 206) dX12_readsStatement_203 (by decide) rfl (by omega) (by omega) (fun h203 => ?_) (fun h203 => ?_)
              · refine j_aload_n (pc' := 209) (z := 53) dX12_readsStatement_208 rfl rfl ?_
                refine j_dup (pc' := 210) dX12_readsStatement_209 rfl rfl ?_
                refine j_get (pc' := 213) (v := aI (a + 1 + 1 + 1 + 1 + 1)) dX12_readsStatement_210 rfl f_Mod_85 (by omega) ((up_n (by omega)).trans up_s) rfl ?_
                refine j_iconst (pc' := 214) dX12_readsStatement_213 rfl ?_
                refine j_iadd (pc' := 215) dX12_readsStatement_214 rfl ?_
                refine j_putI (pc' := 218) dX12_readsStatement_215 rfl p_Mod_85 (by omega) ((up_n (by omega)).trans up_s) (Nat.le_of_ble_eq_true rfl) ?_
                refine j_w (w' := up (up w 53 (eO 11 [aR 54, aR 55, aR 56, aR 57, aI hi, aI ((a + 1 + 1 + 1 + 1 + 1) + 1), aI ra, aI re, aR 58, aR 59, aR 60, aI fm, aI se, aR 61, aR 62, aR 63, aR 64, aR 65, aR 66, aI th])) 58 (eI 4 (upi (upi (upi (upi nu 0 v6) 1 v7) 2 v8) 3 v9))) (by funext j9; simp only [up]; (repeat' split) <;> first | rfl | (exfalso; omega)) ?_
                refine j_iconst (pc' := 219) dX12_readsStatement_218 rfl ?_
                have hsf : sf E re a = -1 := by rw [sf_4 hlt hdg]; (repeat' split) <;> first | rfl | (exfalso; omega)
                exact j_zret1 dX12_readsStatement_219 rfl ⟨(rt_b1 (w0 := w) (by omega)).1, upi (upi (upi (upi nu 0 v6) 1 v7) 2 v8) 3 v9, by rw [if_pos (by omega), show a + digB (E a) + 2 = (a + 1 + 1 + 1 + 1 + 1) + 1 by omega]; exact up_comm (by decide), fun _ => NumOK_p hEc (hv6 (by omega)) (hv7 (by omega)) (hv8 (by omega)) (hv9 (by omega))⟩
              · refine j_iconst (pc' := 207) dX12_readsStatement_206 rfl ?_
                have hsf : sf E re a = a + 1 + 1 + 1 + 1 + 1 := by rw [sf_4 hlt hdg]; (repeat' split) <;> first | rfl | (exfalso; omega)
                exact j_zret0 dX12_readsStatement_207 rfl ⟨(rt_b0 (w0 := w) (by omega)).1, upi (upi (upi (upi nu 0 v6) 1 v7) 2 v8) 3 v9, by rw [if_neg (by omega), hsf]; exact up_comm (by decide), fun q => by omega⟩
  · refine j_tsw (tgt := 181) dX12_readsStatement_16 hx16 (by omega) (by rw [h16]; rfl) (by decide) ?_
    refine j_aload_n (pc' := 182) (z := 53) dX12_readsStatement_181 rfl rfl ?_
    refine j_dup (pc' := 183) dX12_readsStatement_182 rfl rfl ?_
    refine j_get (pc' := 186) (v := aI (a + 1)) dX12_readsStatement_183 rfl f_Mod_85 (by omega) up_s rfl ?_
    refine j_iconst (pc' := 187) dX12_readsStatement_186 rfl ?_
    refine j_isub (pc' := 188) dX12_readsStatement_187 rfl ?_
    refine j_putI (pc' := 191) dX12_readsStatement_188 rfl p_Mod_85 (by omega) up_s (Nat.le_of_ble_eq_true rfl) ?_
    refine j_w (w' := up w 53 (eO 11 [aR 54, aR 55, aR 56, aR 57, aI hi, aI ((a + 1) - 1), aI ra, aI re, aR 58, aR 59, aR 60, aI fm, aI se, aR 61, aR 62, aR 63, aR 64, aR 65, aR 66, aI th])) (by funext j9; simp only [up]; (repeat' split) <;> first | rfl | (exfalso; omega)) ?_
    refine j_iconst (pc' := 192) dX12_readsStatement_191 rfl ?_
    have hsf : sf E re a = a := sf_0 (fun q => by have h1 := q.1; have h2 := digB_let q.2; have h3 := hhv h1; have h4 := hby h1; omega)
    exact j_zret0 dX12_readsStatement_192 rfl ⟨(rt_b0 (w0 := w) (by omega)).1, nu, by rw [if_neg (by omega), hsf, show (a + 1) - 1 = a by omega]; funext j9; simp only [up]; (repeat' split) <;> first | rfl | (subst_vars; exact hnu) | (exfalso; omega), fun q => by omega⟩
  · refine j_tsw (tgt := 161) dX12_readsStatement_16 hx16 (by omega) (by rw [h16]; rfl) (by decide) ?_
    obtain ⟨hlt, hEc⟩ := (her_c hby (by omega)).mp h16
    have hdg : digB (E a) = 2 := by rw [hEc]; decide
    refine j_aload_n (pc' := 162) (z := 53) dX12_readsStatement_161 rfl rfl ?_
    refine j_iconst (pc' := 163) dX12_readsStatement_162 rfl ?_
    refine j_iconst (pc' := 164) dX12_readsStatement_163 rfl ?_
    refine j_callV (pc' := 167) (as := [aI 0, aI 2]) (rest := []) dX12_readsStatement_164 rfl s_Mod_99 (c_Mod_readsNumber up_s ((up_n (by omega)).trans hel) hX ((up_n (by omega)).trans hnu) (k := 0) (m := 2) (by omega) (by omega) (by omega)) (by omega) up_s rfl rfl rfl rfl (fun r9 w9 h9 => ?_)
    obtain ⟨rfl, v10, rfl, hv10⟩ := h9
    have hrb10 := rdp_bd (E := E) (re := re) (Int.toNat 2) (a + 1)
    refine j_st (st' := [aB (rdp E re (Int.toNat 2) (a + 1) = a + 1 + 2)]) rfl ?_
    refine j_w (w' := up (up w 53 (eO 11 [aR 54, aR 55, aR 56, aR 57, aI hi, aI (rdp E re (Int.toNat 2) (a + 1)), aI ra, aI re, aR 58, aR 59, aR 60, aI fm, aI se, aR 61, aR 62, aR 63, aR 64, aR 65, aR 66, aI th])) 58 (eI 4 (upi nu 0 v10))) (by funext j9; simp only [up]; (repeat' split) <;> first | rfl | (exfalso; omega)) ?_
    refine j_istore_n (pc' := 168) (L' := [some (aR 53), some (aI (herV E re a)), some (aB (rdp E re (Int.toNat 2) (a + 1) = a + 1 + 2))]) dX12_readsStatement_167 rfl (by decide) rfl ?_
    refine j_goto (pc' := 193) dX12_readsStatement_168 (by decide) ?_
    refine j_iload_n (pc' := 194) (z := (if rdp E re (Int.toNat 2) (a + 1) = a + 1 + 2 then 1 else 0)) dX12_readsStatement_193 rfl rfl ?_
    refine j_ifb_eq (tgt := 206) (pc' := 197) dX12_readsStatement_194 (by decide) rfl (fun h194 => ?_) (fun h194 => ?_)
    · refine j_iconst (pc' := 207) dX12_readsStatement_206 rfl ?_
      have hsf : sf E re a = rdp E re (Int.toNat 2) (a + 1) := by rw [sf_2 hlt hdg]; (repeat' split) <;> first | rfl | (exfalso; omega)
      exact j_zret0 dX12_readsStatement_207 rfl ⟨(rt_b0 (w0 := w) (by omega)).1, upi nu 0 v10, by rw [if_neg (by omega), hsf]; exact up_comm (by decide), fun q => by omega⟩
    · refine j_w (w' := up (up w 53 (eO 11 [aR 54, aR 55, aR 56, aR 57, aI hi, aI (a + 1 + 2), aI ra, aI re, aR 58, aR 59, aR 60, aI fm, aI se, aR 61, aR 62, aR 63, aR 64, aR 65, aR 66, aI th])) 58 (eI 4 (upi nu 0 v10))) (by rw [h194]) ?_
      refine j_aload_n (pc' := 198) (z := 53) dX12_readsStatement_197 rfl rfl ?_
      refine j_callV (pc' := 201) (as := []) (rest := []) dX12_readsStatement_198 rfl s_Mod_95 (c_Mod_here ((up_n (by omega)).trans up_s) ((up_n (by omega)).trans ((up_n (by omega)).trans hel)) hX (by omega)) (by omega) ((up_n (by omega)).trans up_s) rfl rfl rfl rfl (jdet (st' := [aI (herV E re (a + 1 + 2))]) rfl ?_)
      have hby2 : a + 1 + 2 < re → -128 ≤ E (a + 1 + 2) ∧ E (a + 1 + 2) ≤ 127 := fun z => (hX.1 _ (by omega)).2
      have hhb2 := her_bd (E := E) (re := re) (a := a + 1 + 2)
      have hsc := her_c (c := 59) hby2 (by omega)
      refine j_bipush (pc' := 203) dX12_readsStatement_201 rfl (by decide) ?_
      refine j_icmp_eq (tgt := 208) (pc' := 206) dX12_readsStatement_203 (by decide) rfl (by omega) (by omega) (fun h203 => ?_) (fun h203 => ?_)
      · refine j_aload_n (pc' := 209) (z := 53) dX12_readsStatement_208 rfl rfl ?_
        refine j_dup (pc' := 210) dX12_readsStatement_209 rfl rfl ?_
        refine j_get (pc' := 213) (v := aI (a + 1 + 2)) dX12_readsStatement_210 rfl f_Mod_85 (by omega) ((up_n (by omega)).trans up_s) rfl ?_
        refine j_iconst (pc' := 214) dX12_readsStatement_213 rfl ?_
        refine j_iadd (pc' := 215) dX12_readsStatement_214 rfl ?_
        refine j_putI (pc' := 218) dX12_readsStatement_215 rfl p_Mod_85 (by omega) ((up_n (by omega)).trans up_s) (Nat.le_of_ble_eq_true rfl) ?_
        refine j_w (w' := up (up w 53 (eO 11 [aR 54, aR 55, aR 56, aR 57, aI hi, aI ((a + 1 + 2) + 1), aI ra, aI re, aR 58, aR 59, aR 60, aI fm, aI se, aR 61, aR 62, aR 63, aR 64, aR 65, aR 66, aI th])) 58 (eI 4 (upi nu 0 v10))) (by funext j9; simp only [up]; (repeat' split) <;> first | rfl | (exfalso; omega)) ?_
        refine j_iconst (pc' := 219) dX12_readsStatement_218 rfl ?_
        have hsf : sf E re a = -1 := by rw [sf_2 hlt hdg]; (repeat' split) <;> first | rfl | (exfalso; omega)
        exact j_zret1 dX12_readsStatement_219 rfl ⟨(rt_b1 (w0 := w) (by omega)).1, upi nu 0 v10, by rw [if_pos (by omega), show a + digB (E a) + 2 = (a + 1 + 2) + 1 by omega]; exact up_comm (by decide), fun _ => NumOK_1 (by omega) hdg (hv10 (by omega))⟩
      · refine j_iconst (pc' := 207) dX12_readsStatement_206 rfl ?_
        have hsf : sf E re a = a + 1 + 2 := by rw [sf_2 hlt hdg]; (repeat' split) <;> first | rfl | (exfalso; omega)
        exact j_zret0 dX12_readsStatement_207 rfl ⟨(rt_b0 (w0 := w) (by omega)).1, upi nu 0 v10, by rw [if_neg (by omega), hsf]; exact up_comm (by decide), fun q => by omega⟩
  · refine j_tsw (tgt := 161) dX12_readsStatement_16 hx16 (by omega) (by rw [h16]; rfl) (by decide) ?_
    obtain ⟨hlt, hEc⟩ := (her_c hby (by omega)).mp h16
    have hdg : digB (E a) = 2 := by rw [hEc]; decide
    refine j_aload_n (pc' := 162) (z := 53) dX12_readsStatement_161 rfl rfl ?_
    refine j_iconst (pc' := 163) dX12_readsStatement_162 rfl ?_
    refine j_iconst (pc' := 164) dX12_readsStatement_163 rfl ?_
    refine j_callV (pc' := 167) (as := [aI 0, aI 2]) (rest := []) dX12_readsStatement_164 rfl s_Mod_99 (c_Mod_readsNumber up_s ((up_n (by omega)).trans hel) hX ((up_n (by omega)).trans hnu) (k := 0) (m := 2) (by omega) (by omega) (by omega)) (by omega) up_s rfl rfl rfl rfl (fun r9 w9 h9 => ?_)
    obtain ⟨rfl, v11, rfl, hv11⟩ := h9
    have hrb11 := rdp_bd (E := E) (re := re) (Int.toNat 2) (a + 1)
    refine j_st (st' := [aB (rdp E re (Int.toNat 2) (a + 1) = a + 1 + 2)]) rfl ?_
    refine j_w (w' := up (up w 53 (eO 11 [aR 54, aR 55, aR 56, aR 57, aI hi, aI (rdp E re (Int.toNat 2) (a + 1)), aI ra, aI re, aR 58, aR 59, aR 60, aI fm, aI se, aR 61, aR 62, aR 63, aR 64, aR 65, aR 66, aI th])) 58 (eI 4 (upi nu 0 v11))) (by funext j9; simp only [up]; (repeat' split) <;> first | rfl | (exfalso; omega)) ?_
    refine j_istore_n (pc' := 168) (L' := [some (aR 53), some (aI (herV E re a)), some (aB (rdp E re (Int.toNat 2) (a + 1) = a + 1 + 2))]) dX12_readsStatement_167 rfl (by decide) rfl ?_
    refine j_goto (pc' := 193) dX12_readsStatement_168 (by decide) ?_
    refine j_iload_n (pc' := 194) (z := (if rdp E re (Int.toNat 2) (a + 1) = a + 1 + 2 then 1 else 0)) dX12_readsStatement_193 rfl rfl ?_
    refine j_ifb_eq (tgt := 206) (pc' := 197) dX12_readsStatement_194 (by decide) rfl (fun h194 => ?_) (fun h194 => ?_)
    · refine j_iconst (pc' := 207) dX12_readsStatement_206 rfl ?_
      have hsf : sf E re a = rdp E re (Int.toNat 2) (a + 1) := by rw [sf_2 hlt hdg]; (repeat' split) <;> first | rfl | (exfalso; omega)
      exact j_zret0 dX12_readsStatement_207 rfl ⟨(rt_b0 (w0 := w) (by omega)).1, upi nu 0 v11, by rw [if_neg (by omega), hsf]; exact up_comm (by decide), fun q => by omega⟩
    · refine j_w (w' := up (up w 53 (eO 11 [aR 54, aR 55, aR 56, aR 57, aI hi, aI (a + 1 + 2), aI ra, aI re, aR 58, aR 59, aR 60, aI fm, aI se, aR 61, aR 62, aR 63, aR 64, aR 65, aR 66, aI th])) 58 (eI 4 (upi nu 0 v11))) (by rw [h194]) ?_
      refine j_aload_n (pc' := 198) (z := 53) dX12_readsStatement_197 rfl rfl ?_
      refine j_callV (pc' := 201) (as := []) (rest := []) dX12_readsStatement_198 rfl s_Mod_95 (c_Mod_here ((up_n (by omega)).trans up_s) ((up_n (by omega)).trans ((up_n (by omega)).trans hel)) hX (by omega)) (by omega) ((up_n (by omega)).trans up_s) rfl rfl rfl rfl (jdet (st' := [aI (herV E re (a + 1 + 2))]) rfl ?_)
      have hby2 : a + 1 + 2 < re → -128 ≤ E (a + 1 + 2) ∧ E (a + 1 + 2) ≤ 127 := fun z => (hX.1 _ (by omega)).2
      have hhb2 := her_bd (E := E) (re := re) (a := a + 1 + 2)
      have hsc := her_c (c := 59) hby2 (by omega)
      refine j_bipush (pc' := 203) dX12_readsStatement_201 rfl (by decide) ?_
      refine j_icmp_eq (tgt := 208) (pc' := 206) dX12_readsStatement_203 (by decide) rfl (by omega) (by omega) (fun h203 => ?_) (fun h203 => ?_)
      · refine j_aload_n (pc' := 209) (z := 53) dX12_readsStatement_208 rfl rfl ?_
        refine j_dup (pc' := 210) dX12_readsStatement_209 rfl rfl ?_
        refine j_get (pc' := 213) (v := aI (a + 1 + 2)) dX12_readsStatement_210 rfl f_Mod_85 (by omega) ((up_n (by omega)).trans up_s) rfl ?_
        refine j_iconst (pc' := 214) dX12_readsStatement_213 rfl ?_
        refine j_iadd (pc' := 215) dX12_readsStatement_214 rfl ?_
        refine j_putI (pc' := 218) dX12_readsStatement_215 rfl p_Mod_85 (by omega) ((up_n (by omega)).trans up_s) (Nat.le_of_ble_eq_true rfl) ?_
        refine j_w (w' := up (up w 53 (eO 11 [aR 54, aR 55, aR 56, aR 57, aI hi, aI ((a + 1 + 2) + 1), aI ra, aI re, aR 58, aR 59, aR 60, aI fm, aI se, aR 61, aR 62, aR 63, aR 64, aR 65, aR 66, aI th])) 58 (eI 4 (upi nu 0 v11))) (by funext j9; simp only [up]; (repeat' split) <;> first | rfl | (exfalso; omega)) ?_
        refine j_iconst (pc' := 219) dX12_readsStatement_218 rfl ?_
        have hsf : sf E re a = -1 := by rw [sf_2 hlt hdg]; (repeat' split) <;> first | rfl | (exfalso; omega)
        exact j_zret1 dX12_readsStatement_219 rfl ⟨(rt_b1 (w0 := w) (by omega)).1, upi nu 0 v11, by rw [if_pos (by omega), show a + digB (E a) + 2 = (a + 1 + 2) + 1 by omega]; exact up_comm (by decide), fun _ => NumOK_1 (by omega) hdg (hv11 (by omega))⟩
      · refine j_iconst (pc' := 207) dX12_readsStatement_206 rfl ?_
        have hsf : sf E re a = a + 1 + 2 := by rw [sf_2 hlt hdg]; (repeat' split) <;> first | rfl | (exfalso; omega)
        exact j_zret0 dX12_readsStatement_207 rfl ⟨(rt_b0 (w0 := w) (by omega)).1, upi nu 0 v11, by rw [if_neg (by omega), hsf]; exact up_comm (by decide), fun q => by omega⟩
  · refine j_tsw (tgt := 171) dX12_readsStatement_16 hx16 (by omega) (by rw [h16]; rfl) (by decide) ?_
    obtain ⟨hlt, hEc⟩ := (her_c hby (by omega)).mp h16
    have hdg : digB (E a) = 1 := by rw [hEc]; decide
    refine j_aload_n (pc' := 172) (z := 53) dX12_readsStatement_171 rfl rfl ?_
    refine j_iconst (pc' := 173) dX12_readsStatement_172 rfl ?_
    refine j_iconst (pc' := 174) dX12_readsStatement_173 rfl ?_
    refine j_callV (pc' := 177) (as := [aI 0, aI 1]) (rest := []) dX12_readsStatement_174 rfl s_Mod_99 (c_Mod_readsNumber up_s ((up_n (by omega)).trans hel) hX ((up_n (by omega)).trans hnu) (k := 0) (m := 1) (by omega) (by omega) (by omega)) (by omega) up_s rfl rfl rfl rfl (fun r9 w9 h9 => ?_)
    obtain ⟨rfl, v12, rfl, hv12⟩ := h9
    have hrb12 := rdp_bd (E := E) (re := re) (Int.toNat 1) (a + 1)
    refine j_st (st' := [aB (rdp E re (Int.toNat 1) (a + 1) = a + 1 + 1)]) rfl ?_
    refine j_w (w' := up (up w 53 (eO 11 [aR 54, aR 55, aR 56, aR 57, aI hi, aI (rdp E re (Int.toNat 1) (a + 1)), aI ra, aI re, aR 58, aR 59, aR 60, aI fm, aI se, aR 61, aR 62, aR 63, aR 64, aR 65, aR 66, aI th])) 58 (eI 4 (upi nu 0 v12))) (by funext j9; simp only [up]; (repeat' split) <;> first | rfl | (exfalso; omega)) ?_
    refine j_istore_n (pc' := 178) (L' := [some (aR 53), some (aI (herV E re a)), some (aB (rdp E re (Int.toNat 1) (a + 1) = a + 1 + 1))]) dX12_readsStatement_177 rfl (by decide) rfl ?_
    refine j_goto (pc' := 193) dX12_readsStatement_178 (by decide) ?_
    refine j_iload_n (pc' := 194) (z := (if rdp E re (Int.toNat 1) (a + 1) = a + 1 + 1 then 1 else 0)) dX12_readsStatement_193 rfl rfl ?_
    refine j_ifb_eq (tgt := 206) (pc' := 197) dX12_readsStatement_194 (by decide) rfl (fun h194 => ?_) (fun h194 => ?_)
    · refine j_iconst (pc' := 207) dX12_readsStatement_206 rfl ?_
      have hsf : sf E re a = rdp E re (Int.toNat 1) (a + 1) := by rw [sf_1 hlt hdg]; (repeat' split) <;> first | rfl | (exfalso; omega)
      exact j_zret0 dX12_readsStatement_207 rfl ⟨(rt_b0 (w0 := w) (by omega)).1, upi nu 0 v12, by rw [if_neg (by omega), hsf]; exact up_comm (by decide), fun q => by omega⟩
    · refine j_w (w' := up (up w 53 (eO 11 [aR 54, aR 55, aR 56, aR 57, aI hi, aI (a + 1 + 1), aI ra, aI re, aR 58, aR 59, aR 60, aI fm, aI se, aR 61, aR 62, aR 63, aR 64, aR 65, aR 66, aI th])) 58 (eI 4 (upi nu 0 v12))) (by rw [h194]) ?_
      refine j_aload_n (pc' := 198) (z := 53) dX12_readsStatement_197 rfl rfl ?_
      refine j_callV (pc' := 201) (as := []) (rest := []) dX12_readsStatement_198 rfl s_Mod_95 (c_Mod_here ((up_n (by omega)).trans up_s) ((up_n (by omega)).trans ((up_n (by omega)).trans hel)) hX (by omega)) (by omega) ((up_n (by omega)).trans up_s) rfl rfl rfl rfl (jdet (st' := [aI (herV E re (a + 1 + 1))]) rfl ?_)
      have hby2 : a + 1 + 1 < re → -128 ≤ E (a + 1 + 1) ∧ E (a + 1 + 1) ≤ 127 := fun z => (hX.1 _ (by omega)).2
      have hhb2 := her_bd (E := E) (re := re) (a := a + 1 + 1)
      have hsc := her_c (c := 59) hby2 (by omega)
      refine j_bipush (pc' := 203) dX12_readsStatement_201 rfl (by decide) ?_
      refine j_icmp_eq (tgt := 208) (pc' := 206) dX12_readsStatement_203 (by decide) rfl (by omega) (by omega) (fun h203 => ?_) (fun h203 => ?_)
      · refine j_aload_n (pc' := 209) (z := 53) dX12_readsStatement_208 rfl rfl ?_
        refine j_dup (pc' := 210) dX12_readsStatement_209 rfl rfl ?_
        refine j_get (pc' := 213) (v := aI (a + 1 + 1)) dX12_readsStatement_210 rfl f_Mod_85 (by omega) ((up_n (by omega)).trans up_s) rfl ?_
        refine j_iconst (pc' := 214) dX12_readsStatement_213 rfl ?_
        refine j_iadd (pc' := 215) dX12_readsStatement_214 rfl ?_
        refine j_putI (pc' := 218) dX12_readsStatement_215 rfl p_Mod_85 (by omega) ((up_n (by omega)).trans up_s) (Nat.le_of_ble_eq_true rfl) ?_
        refine j_w (w' := up (up w 53 (eO 11 [aR 54, aR 55, aR 56, aR 57, aI hi, aI ((a + 1 + 1) + 1), aI ra, aI re, aR 58, aR 59, aR 60, aI fm, aI se, aR 61, aR 62, aR 63, aR 64, aR 65, aR 66, aI th])) 58 (eI 4 (upi nu 0 v12))) (by funext j9; simp only [up]; (repeat' split) <;> first | rfl | (exfalso; omega)) ?_
        refine j_iconst (pc' := 219) dX12_readsStatement_218 rfl ?_
        have hsf : sf E re a = -1 := by rw [sf_1 hlt hdg]; (repeat' split) <;> first | rfl | (exfalso; omega)
        exact j_zret1 dX12_readsStatement_219 rfl ⟨(rt_b1 (w0 := w) (by omega)).1, upi nu 0 v12, by rw [if_pos (by omega), show a + digB (E a) + 2 = (a + 1 + 1) + 1 by omega]; exact up_comm (by decide), fun _ => NumOK_1 (by omega) hdg (hv12 (by omega))⟩
      · refine j_iconst (pc' := 207) dX12_readsStatement_206 rfl ?_
        have hsf : sf E re a = a + 1 + 1 := by rw [sf_1 hlt hdg]; (repeat' split) <;> first | rfl | (exfalso; omega)
        exact j_zret0 dX12_readsStatement_207 rfl ⟨(rt_b0 (w0 := w) (by omega)).1, upi nu 0 v12, by rw [if_neg (by omega), hsf]; exact up_comm (by decide), fun q => by omega⟩
  · refine j_tsw (tgt := 181) dX12_readsStatement_16 hx16 (by omega) (by rw [h16]; rfl) (by decide) ?_
    refine j_aload_n (pc' := 182) (z := 53) dX12_readsStatement_181 rfl rfl ?_
    refine j_dup (pc' := 183) dX12_readsStatement_182 rfl rfl ?_
    refine j_get (pc' := 186) (v := aI (a + 1)) dX12_readsStatement_183 rfl f_Mod_85 (by omega) up_s rfl ?_
    refine j_iconst (pc' := 187) dX12_readsStatement_186 rfl ?_
    refine j_isub (pc' := 188) dX12_readsStatement_187 rfl ?_
    refine j_putI (pc' := 191) dX12_readsStatement_188 rfl p_Mod_85 (by omega) up_s (Nat.le_of_ble_eq_true rfl) ?_
    refine j_w (w' := up w 53 (eO 11 [aR 54, aR 55, aR 56, aR 57, aI hi, aI ((a + 1) - 1), aI ra, aI re, aR 58, aR 59, aR 60, aI fm, aI se, aR 61, aR 62, aR 63, aR 64, aR 65, aR 66, aI th])) (by funext j9; simp only [up]; (repeat' split) <;> first | rfl | (exfalso; omega)) ?_
    refine j_iconst (pc' := 192) dX12_readsStatement_191 rfl ?_
    have hsf : sf E re a = a := sf_0 (fun q => by have h1 := q.1; have h2 := digB_let q.2; have h3 := hhv h1; have h4 := hby h1; omega)
    exact j_zret0 dX12_readsStatement_192 rfl ⟨(rt_b0 (w0 := w) (by omega)).1, nu, by rw [if_neg (by omega), hsf, show (a + 1) - 1 = a by omega]; funext j9; simp only [up]; (repeat' split) <;> first | rfl | (subst_vars; exact hnu) | (exfalso; omega), fun q => by omega⟩
  · refine j_tsw (tgt := 181) dX12_readsStatement_16 hx16 (by omega) (by rw [h16]; rfl) (by decide) ?_
    refine j_aload_n (pc' := 182) (z := 53) dX12_readsStatement_181 rfl rfl ?_
    refine j_dup (pc' := 183) dX12_readsStatement_182 rfl rfl ?_
    refine j_get (pc' := 186) (v := aI (a + 1)) dX12_readsStatement_183 rfl f_Mod_85 (by omega) up_s rfl ?_
    refine j_iconst (pc' := 187) dX12_readsStatement_186 rfl ?_
    refine j_isub (pc' := 188) dX12_readsStatement_187 rfl ?_
    refine j_putI (pc' := 191) dX12_readsStatement_188 rfl p_Mod_85 (by omega) up_s (Nat.le_of_ble_eq_true rfl) ?_
    refine j_w (w' := up w 53 (eO 11 [aR 54, aR 55, aR 56, aR 57, aI hi, aI ((a + 1) - 1), aI ra, aI re, aR 58, aR 59, aR 60, aI fm, aI se, aR 61, aR 62, aR 63, aR 64, aR 65, aR 66, aI th])) (by funext j9; simp only [up]; (repeat' split) <;> first | rfl | (exfalso; omega)) ?_
    refine j_iconst (pc' := 192) dX12_readsStatement_191 rfl ?_
    have hsf : sf E re a = a := sf_0 (fun q => by have h1 := q.1; have h2 := digB_let q.2; have h3 := hhv h1; have h4 := hby h1; omega)
    exact j_zret0 dX12_readsStatement_192 rfl ⟨(rt_b0 (w0 := w) (by omega)).1, nu, by rw [if_neg (by omega), hsf, show (a + 1) - 1 = a by omega]; funext j9; simp only [up]; (repeat' split) <;> first | rfl | (subst_vars; exact hnu) | (exfalso; omega), fun q => by omega⟩
  · refine j_tsw (tgt := 171) dX12_readsStatement_16 hx16 (by omega) (by rw [h16]; rfl) (by decide) ?_
    obtain ⟨hlt, hEc⟩ := (her_c hby (by omega)).mp h16
    have hdg : digB (E a) = 1 := by rw [hEc]; decide
    refine j_aload_n (pc' := 172) (z := 53) dX12_readsStatement_171 rfl rfl ?_
    refine j_iconst (pc' := 173) dX12_readsStatement_172 rfl ?_
    refine j_iconst (pc' := 174) dX12_readsStatement_173 rfl ?_
    refine j_callV (pc' := 177) (as := [aI 0, aI 1]) (rest := []) dX12_readsStatement_174 rfl s_Mod_99 (c_Mod_readsNumber up_s ((up_n (by omega)).trans hel) hX ((up_n (by omega)).trans hnu) (k := 0) (m := 1) (by omega) (by omega) (by omega)) (by omega) up_s rfl rfl rfl rfl (fun r9 w9 h9 => ?_)
    obtain ⟨rfl, v13, rfl, hv13⟩ := h9
    have hrb13 := rdp_bd (E := E) (re := re) (Int.toNat 1) (a + 1)
    refine j_st (st' := [aB (rdp E re (Int.toNat 1) (a + 1) = a + 1 + 1)]) rfl ?_
    refine j_w (w' := up (up w 53 (eO 11 [aR 54, aR 55, aR 56, aR 57, aI hi, aI (rdp E re (Int.toNat 1) (a + 1)), aI ra, aI re, aR 58, aR 59, aR 60, aI fm, aI se, aR 61, aR 62, aR 63, aR 64, aR 65, aR 66, aI th])) 58 (eI 4 (upi nu 0 v13))) (by funext j9; simp only [up]; (repeat' split) <;> first | rfl | (exfalso; omega)) ?_
    refine j_istore_n (pc' := 178) (L' := [some (aR 53), some (aI (herV E re a)), some (aB (rdp E re (Int.toNat 1) (a + 1) = a + 1 + 1))]) dX12_readsStatement_177 rfl (by decide) rfl ?_
    refine j_goto (pc' := 193) dX12_readsStatement_178 (by decide) ?_
    refine j_iload_n (pc' := 194) (z := (if rdp E re (Int.toNat 1) (a + 1) = a + 1 + 1 then 1 else 0)) dX12_readsStatement_193 rfl rfl ?_
    refine j_ifb_eq (tgt := 206) (pc' := 197) dX12_readsStatement_194 (by decide) rfl (fun h194 => ?_) (fun h194 => ?_)
    · refine j_iconst (pc' := 207) dX12_readsStatement_206 rfl ?_
      have hsf : sf E re a = rdp E re (Int.toNat 1) (a + 1) := by rw [sf_1 hlt hdg]; (repeat' split) <;> first | rfl | (exfalso; omega)
      exact j_zret0 dX12_readsStatement_207 rfl ⟨(rt_b0 (w0 := w) (by omega)).1, upi nu 0 v13, by rw [if_neg (by omega), hsf]; exact up_comm (by decide), fun q => by omega⟩
    · refine j_w (w' := up (up w 53 (eO 11 [aR 54, aR 55, aR 56, aR 57, aI hi, aI (a + 1 + 1), aI ra, aI re, aR 58, aR 59, aR 60, aI fm, aI se, aR 61, aR 62, aR 63, aR 64, aR 65, aR 66, aI th])) 58 (eI 4 (upi nu 0 v13))) (by rw [h194]) ?_
      refine j_aload_n (pc' := 198) (z := 53) dX12_readsStatement_197 rfl rfl ?_
      refine j_callV (pc' := 201) (as := []) (rest := []) dX12_readsStatement_198 rfl s_Mod_95 (c_Mod_here ((up_n (by omega)).trans up_s) ((up_n (by omega)).trans ((up_n (by omega)).trans hel)) hX (by omega)) (by omega) ((up_n (by omega)).trans up_s) rfl rfl rfl rfl (jdet (st' := [aI (herV E re (a + 1 + 1))]) rfl ?_)
      have hby2 : a + 1 + 1 < re → -128 ≤ E (a + 1 + 1) ∧ E (a + 1 + 1) ≤ 127 := fun z => (hX.1 _ (by omega)).2
      have hhb2 := her_bd (E := E) (re := re) (a := a + 1 + 1)
      have hsc := her_c (c := 59) hby2 (by omega)
      refine j_bipush (pc' := 203) dX12_readsStatement_201 rfl (by decide) ?_
      refine j_icmp_eq (tgt := 208) (pc' := 206) dX12_readsStatement_203 (by decide) rfl (by omega) (by omega) (fun h203 => ?_) (fun h203 => ?_)
      · refine j_aload_n (pc' := 209) (z := 53) dX12_readsStatement_208 rfl rfl ?_
        refine j_dup (pc' := 210) dX12_readsStatement_209 rfl rfl ?_
        refine j_get (pc' := 213) (v := aI (a + 1 + 1)) dX12_readsStatement_210 rfl f_Mod_85 (by omega) ((up_n (by omega)).trans up_s) rfl ?_
        refine j_iconst (pc' := 214) dX12_readsStatement_213 rfl ?_
        refine j_iadd (pc' := 215) dX12_readsStatement_214 rfl ?_
        refine j_putI (pc' := 218) dX12_readsStatement_215 rfl p_Mod_85 (by omega) ((up_n (by omega)).trans up_s) (Nat.le_of_ble_eq_true rfl) ?_
        refine j_w (w' := up (up w 53 (eO 11 [aR 54, aR 55, aR 56, aR 57, aI hi, aI ((a + 1 + 1) + 1), aI ra, aI re, aR 58, aR 59, aR 60, aI fm, aI se, aR 61, aR 62, aR 63, aR 64, aR 65, aR 66, aI th])) 58 (eI 4 (upi nu 0 v13))) (by funext j9; simp only [up]; (repeat' split) <;> first | rfl | (exfalso; omega)) ?_
        refine j_iconst (pc' := 219) dX12_readsStatement_218 rfl ?_
        have hsf : sf E re a = -1 := by rw [sf_1 hlt hdg]; (repeat' split) <;> first | rfl | (exfalso; omega)
        exact j_zret1 dX12_readsStatement_219 rfl ⟨(rt_b1 (w0 := w) (by omega)).1, upi nu 0 v13, by rw [if_pos (by omega), show a + digB (E a) + 2 = (a + 1 + 1) + 1 by omega]; exact up_comm (by decide), fun _ => NumOK_1 (by omega) hdg (hv13 (by omega))⟩
      · refine j_iconst (pc' := 207) dX12_readsStatement_206 rfl ?_
        have hsf : sf E re a = a + 1 + 1 := by rw [sf_1 hlt hdg]; (repeat' split) <;> first | rfl | (exfalso; omega)
        exact j_zret0 dX12_readsStatement_207 rfl ⟨(rt_b0 (w0 := w) (by omega)).1, upi nu 0 v13, by rw [if_neg (by omega), hsf]; exact up_comm (by decide), fun q => by omega⟩
  · refine j_tswd (tgt := 181) dX12_readsStatement_16 hx16 h16 (by decide) ?_
    refine j_aload_n (pc' := 182) (z := 53) dX12_readsStatement_181 rfl rfl ?_
    refine j_dup (pc' := 183) dX12_readsStatement_182 rfl rfl ?_
    refine j_get (pc' := 186) (v := aI (a + 1)) dX12_readsStatement_183 rfl f_Mod_85 (by omega) up_s rfl ?_
    refine j_iconst (pc' := 187) dX12_readsStatement_186 rfl ?_
    refine j_isub (pc' := 188) dX12_readsStatement_187 rfl ?_
    refine j_putI (pc' := 191) dX12_readsStatement_188 rfl p_Mod_85 (by omega) up_s (Nat.le_of_ble_eq_true rfl) ?_
    refine j_w (w' := up w 53 (eO 11 [aR 54, aR 55, aR 56, aR 57, aI hi, aI ((a + 1) - 1), aI ra, aI re, aR 58, aR 59, aR 60, aI fm, aI se, aR 61, aR 62, aR 63, aR 64, aR 65, aR 66, aI th])) (by funext j9; simp only [up]; (repeat' split) <;> first | rfl | (exfalso; omega)) ?_
    refine j_iconst (pc' := 192) dX12_readsStatement_191 rfl ?_
    have hsf : sf E re a = a := sf_0 (fun q => by have h1 := q.1; have h2 := digB_let q.2; have h3 := hhv h1; have h4 := hby h1; omega)
    exact j_zret0 dX12_readsStatement_192 rfl ⟨(rt_b0 (w0 := w) (by omega)).1, nu, by rw [if_neg (by omega), hsf, show (a + 1) - 1 = a by omega]; funext j9; simp only [up]; (repeat' split) <;> first | rfl | (subst_vars; exact hnu) | (exfalso; omega), fun q => by omega⟩
set_option maxRecDepth 100000 in
set_option maxHeartbeats 4000000 in
theorem c_Mod_isPartX {l : Launch} {w : AW} {S : Int → Int} {D : Int → Int → Int} {n mi p : Int} {hi pc ra re fm se th : Int} (hO : w 53 = mOb hi pc ra re fm se th) (hS : w 54 = eI 48 S) (hR : Row S D n mi) (hB : CarOK D n mi) (hp : inI p) : Call l m_Mod_isPart false 68 68 [aR 53, aI p] w (rt (some (aB (0 ≤ p ∧ p < n))) w) := by
  obtain ⟨hn, hD, hs0, hs1, hs2, hs3⟩ := id hB
  refine Call.of (L := [some (aR 53), some (aI p)]) rfl (Nat.le_of_ble_eq_true rfl) rfl (fun G ad => ?_)
  refine j_iload_n (pc' := 1) (z := p) dX12_isPart_0 rfl rfl ?_
  refine j_iconst (pc' := 2) dX12_isPart_1 rfl ?_
  refine j_aload_n (pc' := 3) (z := 53) dX12_isPart_2 rfl rfl ?_
  refine j_get (pc' := 6) (v := aR 54) dX12_isPart_3 rfl f_Mod_9 (by omega) hO rfl ?_
  refine j_iconst (pc' := 7) dX12_isPart_6 rfl ?_
  refine j_iald (pc' := 8) dX12_isPart_7 rfl (by omega) hS (by omega) (by decide) ?_
  refine j_top (b := n) hR.pn ?_
  refine j_iconst (pc' := 9) dX12_isPart_8 rfl ?_
  refine j_isub (pc' := 10) dX12_isPart_9 rfl ?_
  refine j_callS (pc' := 13) (as := [aI p, aI 0, aI (n - 1)]) (rest := []) dX12_isPart_10 rfl s_Mod_49 (c_Mod_isIn (by omega) (by omega) (by omega)) rfl rfl rfl (jdet (st' := [aB (0 ≤ p ∧ p ≤ n - 1)]) rfl ?_)
  exact j_zret dX12_isPart_13 rfl (rt_bb (by omega))
set_option maxRecDepth 100000 in
set_option maxHeartbeats 4000000 in
theorem c_Mod_isThereX {l : Launch} {w : AW} {S : Int → Int} {D : Int → Int → Int} {n mi p : Int} {hi pc ra re fm se th : Int} (hO : w 53 = mOb hi pc ra re fm se th) (hS : w 54 = eI 48 S) (hR : Row S D n mi) (hB : CarOK D n mi) (hp : inI p) : Call l m_Mod_isThere false 68 68 [aR 53, aI p] w (rt (some (aB ((0 ≤ p ∧ p < n) ∧ ¬ D 4 p = 3))) w) := by
  obtain ⟨hn, hD, hs0, hs1, hs2, hs3⟩ := id hB
  refine Call.of (L := [some (aR 53), some (aI p)]) rfl (Nat.le_of_ble_eq_true rfl) rfl (fun G ad => ?_)
  refine j_aload_n (pc' := 1) (z := 53) dX12_isThere_0 rfl rfl ?_
  refine j_iload_n (pc' := 2) (z := p) dX12_isThere_1 rfl rfl ?_
  refine j_callV (pc' := 5) (as := [aI p]) (rest := []) dX12_isThere_2 rfl s_Mod_103 (c_Mod_isPartX hO hS hR hB (by omega)) (by omega) hO rfl rfl rfl rfl (jdet (st' := [aB (0 ≤ p ∧ p < n)]) rfl ?_)
  refine j_ifb_eq (tgt := 26) (pc' := 8) dX12_isThere_5 (by decide) rfl (fun h5 => ?_) (fun h5 => ?_)
  · refine j_iconst (pc' := 27) dX12_isThere_26 rfl ?_
    exact j_zret0 dX12_isThere_27 rfl (rt_b0 (by omega))
  · refine j_aload_n (pc' := 9) (z := 53) dX12_isThere_8 rfl rfl ?_
    refine j_get (pc' := 12) (v := aR 54) dX12_isThere_9 rfl f_Mod_9 (by omega) hO rfl ?_
    refine j_iload_n (pc' := 13) (z := p) dX12_isThere_12 rfl rfl ?_
    have hDp := hD p (by omega) (by omega)
    refine j_iconst (pc' := 14) dX12_isThere_13 rfl ?_
    refine j_callS (pc' := 17) (as := [aI p, aI 4]) (rest := [aR 54]) dX12_isThere_14 rfl s_Mod_53 c_Mod_at rfl rfl rfl (jdet (st' := [aI (6 + 6 * p + 4), aR 54]) rfl ?_)
    refine j_iald (pc' := 18) dX12_isThere_17 rfl (by omega) hS (by omega) (by decide) ?_
    refine j_top (b := D 4 p) (hR.pj (j := 4) (p := p) (by omega) (by omega)) ?_
    refine j_iconst (pc' := 19) dX12_isThere_18 rfl ?_
    refine j_icmp_eq (tgt := 26) (pc' := 22) dX12_isThere_19 (by decide) rfl (by omega) (by omega) (fun h19 => ?_) (fun h19 => ?_)
    · refine j_iconst (pc' := 27) dX12_isThere_26 rfl ?_
      exact j_zret0 dX12_isThere_27 rfl (rt_b0 (by omega))
    · refine j_iconst (pc' := 23) dX12_isThere_22 rfl ?_
      refine j_goto (pc' := 27) dX12_isThere_23 (by decide) ?_
      exact j_zret1 dX12_isThere_27 rfl (rt_b1 (by omega))
set_option maxRecDepth 100000 in
set_option maxHeartbeats 4000000 in
theorem c_Mod_isDone {l : Launch} {w : AW} {E v S : Int → Int} {D : Int → Int → Int} {n mi a : Int} {hi pc ra re fm se th : Int} (hO : w 53 = mOb hi pc ra re fm se th) (hS : w 54 = eI 48 S) (hR : Row S D n mi) (hB : CarOK D n mi) (hnu : w 58 = eI 4 v) (hwd : WdOK D) (hN : NumOK v E a) (hdg : 0 < digB (E a)) (hst : ∀ k : Int, 0 ≤ k → k < digB (E a) → 48 ≤ E (a + 1 + k) ∧ E (a + 1 + k) ≤ 57) : Call l m_Mod_isDone false 68 68 [aR 53, aI (E a)] w (fun r w9 => r = some (aB (0 ≤ (stq E a (D, n, mi)).1)) ∧ ∃ X, w9 = up w 54 (eI 48 X) ∧ (0 ≤ (stq E a (D, n, mi)).1 → Row X (stq E a (D, n, mi)).2.1 (stq E a (D, n, mi)).2.2.1 (stq E a (D, n, mi)).2.2.2)) := by
  obtain ⟨hn, hD, hs0, hs1, hs2, hs3⟩ := id hB
  have hlet := digB_let hdg
  obtain ⟨x9, hx9⟩ : ∃ x9, x9 = (numF E (a + 1) (digB (E a))) := ⟨_, rfl⟩
  have hstq : stq E a (D, n, mi) = stp (E a) x9 (D, n, mi) := by rw [hx9]; rfl
  have hdb := digB_bd (c := E a)
  have hnb := numF_bd (E := E) (a := a + 1) (m := digB (E a)) hdb hst
  have hnb2 : digB (E a) = 2 → x9 ≤ 99 := fun q => by
    have d0 := hst 0 (by omega) (by omega)
    have d1 := hst 1 (by omega) (by omega)
    rw [hx9, q]
    have e : numF E (a + 1) 2 = 10 * (10 * 0 + E (a + 1 + 0) - 48) + E (a + 1 + 1) - 48 := rfl
    omega
  have hnb1 : digB (E a) = 1 → x9 ≤ 9 := fun q => by
    have d0 := hst 0 (by omega) (by omega)
    rw [hx9, q, numF1]
    rw [Int.add_zero] at d0
    omega
  have hd2 : (E a = 115 ∨ E a = 114 ∨ E a = 100) → x9 ≤ 99 := fun q => hnb2 (by unfold digB; rw [if_neg (by omega), if_pos (by omega)])
  have hd1 : (E a = 99 ∨ E a = 108 ∨ E a = 104 ∨ E a = 119 ∨ E a = 111 ∨ E a = 116) → x9 ≤ 9 := fun q => hnb1 (by unfold digB; rw [if_neg (by omega), if_neg (by omega), if_pos (by omega)])
  refine Call.of (L := [some (aR 53), some (aI (E a)), none, none]) rfl (Nat.le_of_ble_eq_true rfl) rfl (fun G ad => ?_)
  refine j_aload_n (pc' := 1) (z := 53) dX12_isDone_0 rfl rfl ?_
  refine j_get (pc' := 4) (v := aR 58) dX12_isDone_1 rfl f_Mod_22 (by omega) hO rfl ?_
  refine j_iconst (pc' := 5) dX12_isDone_4 rfl ?_
  refine j_iald (pc' := 6) dX12_isDone_5 rfl (by omega) hnu (by omega) (by decide) ?_
  refine j_istore_n (pc' := 7) (L' := [some (aR 53), some (aI (E a)), some (aI (v 0)), none]) dX12_isDone_6 rfl (by decide) rfl ?_
  refine j_iload_n (pc' := 8) (z := (E a)) dX12_isDone_7 rfl rfl ?_
  have hx8 : -2147483648 ≤ E a ∧ E a ≤ 2147483647 := by omega
  rcases hlet with h8 | h8 | h8 | h8 | h8 | h8 | h8 | h8 | h8 | h8
  · refine j_tsw (tgt := 182) dX12_isDone_8 hx8 (by omega) (by rw [h8]; rfl) (by decide) ?_
    have hv0 : v 0 = x9 := by rw [hx9]; exact hN.2 (by omega)
    rw [hv0]
    have hstp := hstq; rw [h8, stp_c] at hstp; dsimp only at hstp
    refine j_aload_n (pc' := 183) (z := 53) dX12_isDone_182 rfl rfl ?_
    refine j_get (pc' := 186) (v := aR 54) dX12_isDone_183 rfl f_Mod_9 (by omega) hO rfl ?_
    refine j_iconst (pc' := 187) dX12_isDone_186 rfl ?_
    refine j_iload_n (pc' := 188) (z := x9) dX12_isDone_187 rfl rfl ?_
    refine j_iast (pc' := 189) dX12_isDone_188 rfl (by omega) hS (by omega) (by decide) ?_
    refine j_iconst (pc' := 190) dX12_isDone_189 rfl ?_
    have hyes : 0 ≤ (stq E a (D, n, mi)).1 := by rw [hstp]; show 0 ≤ chR D 1 x9; unfold chR; rw [if_pos (by have := mos1; omega)]; omega
    exact j_zret1 dX12_isDone_190 rfl ⟨(rt_b1 (w0 := w) hyes).1, upi S 3 x9, rfl, fun _ => by rw [hstp]; show Row _ (chD D 1 x9) n mi; rw [show chD D 1 x9 = upD D 6 1 x9 from if_pos (by have := mos1; omega)]; exact ((hR.set (k := 1) (x := x9) (by omega)).ex rfl)⟩
  · refine j_tsw (tgt := 319) dX12_isDone_8 hx8 (by omega) (by rw [h8]; rfl) (by decide) ?_
    have hv0 : v 0 = x9 := by rw [hx9]; exact hN.2 (by omega)
    rw [hv0]
    have hstp := hstq; rw [h8, stp_d] at hstp; dsimp only at hstp
    refine j_iload_n (pc' := 320) (z := x9) dX12_isDone_319 rfl rfl ?_
    refine j_if_eq (tgt := 337) (pc' := 323) dX12_isDone_320 (by decide) rfl (by omega) (fun h320 => ?_) (fun h320 => ?_)
    · refine j_iconst (pc' := 338) dX12_isDone_337 rfl ?_
      have hno : ¬ 0 ≤ (stq E a (D, n, mi)).1 := by rw [hstp]; show ¬ 0 ≤ drR mi x9; unfold drR; (repeat' split) <;> omega
      exact j_zret0 dX12_isDone_338 rfl ⟨(rt_b0 (w0 := w) hno).1, S, (up_id hS).symm, fun q => absurd q hno⟩
    · refine j_aload_n (pc' := 324) (z := 53) dX12_isDone_323 rfl rfl ?_
      refine j_get (pc' := 327) (v := aR 54) dX12_isDone_324 rfl f_Mod_9 (by omega) hO rfl ?_
      refine j_iconst (pc' := 328) dX12_isDone_327 rfl ?_
      refine j_iald (pc' := 329) dX12_isDone_328 rfl (by omega) hS (by omega) (by decide) ?_
      refine j_top (b := mi) hR.pm ?_
      refine j_iload_n (pc' := 330) (z := x9) dX12_isDone_329 rfl rfl ?_
      refine j_iadd (pc' := 331) dX12_isDone_330 rfl ?_
      refine j_sipush (pc' := 334) dX12_isDone_331 rfl (by decide) ?_
      refine j_icmp_le (tgt := 339) (pc' := 337) dX12_isDone_334 (by decide) rfl (by omega) (by omega) (fun h334 => ?_) (fun h334 => ?_)
      · refine j_aload_n (pc' := 340) (z := 53) dX12_isDone_339 rfl rfl ?_
        refine j_get (pc' := 343) (v := aR 54) dX12_isDone_340 rfl f_Mod_9 (by omega) hO rfl ?_
        refine j_callS (pc' := 346) (as := [aR 54]) (rest := []) dX12_isDone_343 rfl s_Mod_124 (c_Mod_drive hS (by omega) hR hB hwd ) rfl rfl rfl (fun r9 w9 h9 => ?_)
        obtain ⟨rfl, S1, hR1, rfl⟩ := h9
        refine j_st (st' := [aI (hrd D n 0 (D 6 0))]) rfl ?_
        refine j_istore_n (pc' := 347) (L' := [some (aR 53), some (aI (E a)), some (aI x9), some (aI (hrd D n 0 (D 6 0)))]) dX12_isDone_346 rfl (by decide) rfl ?_
        refine j_aload_n (pc' := 348) (z := 53) dX12_isDone_347 rfl rfl ?_
        refine j_get (pc' := 351) (v := aR 54) dX12_isDone_348 rfl f_Mod_9 (by omega) ((up_n (by omega)).trans hO) rfl ?_
        refine j_iconst (pc' := 352) dX12_isDone_351 rfl ?_
        refine j_dup2 (pc' := 353) dX12_isDone_352 rfl rfl rfl ?_
        refine j_iald (pc' := 354) dX12_isDone_353 rfl (by omega) up_s (by omega) (by decide) ?_
        refine j_top (b := mi) hR1.pm ?_
        refine j_iload_n (pc' := 355) (z := x9) dX12_isDone_354 rfl rfl ?_
        refine j_iadd (pc' := 356) dX12_isDone_355 rfl ?_
        refine j_iast (pc' := 357) dX12_isDone_356 rfl (by omega) up_s (by omega) (by decide) ?_
        refine j_w (w' := up w 54 (eI 48 (upi S1 1 (mi + x9)))) (by funext j9; simp only [up]; (repeat' split) <;> first | rfl | (exfalso; omega)) ?_
        refine j_iconst (pc' := 358) dX12_isDone_357 rfl ?_
        have hyes : 0 ≤ (stq E a (D, n, mi)).1 := by rw [hstp]; show 0 ≤ drR mi x9; unfold drR; (repeat' split) <;> omega
        exact j_zret1 dX12_isDone_358 rfl ⟨(rt_b1 (w0 := w) hyes).1, upi S1 1 (mi + x9), rfl, fun _ => by rw [hstp]; show Row _ (drD D n mi x9) n (drM mi x9); rw [show drD D n mi x9 = endD D n from if_pos (by omega), show drM mi x9 = mi + x9 from if_pos (by omega)]; exact (hR1.mil (x := mi + x9) (by omega))⟩
      · refine j_iconst (pc' := 338) dX12_isDone_337 rfl ?_
        have hno : ¬ 0 ≤ (stq E a (D, n, mi)).1 := by rw [hstp]; show ¬ 0 ≤ drR mi x9; unfold drR; (repeat' split) <;> omega
        exact j_zret0 dX12_isDone_338 rfl ⟨(rt_b0 (w0 := w) hno).1, S, (up_id hS).symm, fun q => absurd q hno⟩
  · refine j_tsw (tgt := 228) dX12_isDone_8 hx8 (by omega) (by rw [h8]; rfl) (by decide) ?_
    have hv0 : v 0 = x9 := by rw [hx9]; exact hN.2 (by omega)
    rw [hv0]
    have hstp := hstq; rw [h8, stp_h] at hstp; dsimp only at hstp
    refine j_aload_n (pc' := 229) (z := 53) dX12_isDone_228 rfl rfl ?_
    refine j_iload_n (pc' := 230) (z := x9) dX12_isDone_229 rfl rfl ?_
    refine j_callV (pc' := 233) (as := [aI x9]) (rest := []) dX12_isDone_230 rfl s_Mod_118 (c_Mod_isThereX hO hS hR hB (by omega)) (by omega) hO rfl rfl rfl rfl (jdet (st' := [aB ((0 ≤ x9 ∧ x9 < n) ∧ ¬ D 4 x9 = 3)]) rfl ?_)
    refine j_ifb_ne (tgt := 238) (pc' := 236) dX12_isDone_233 (by decide) rfl (fun h233 => ?_) (fun h233 => ?_)
    · refine j_aload_n (pc' := 239) (z := 53) dX12_isDone_238 rfl rfl ?_
      refine j_get (pc' := 242) (v := aR 54) dX12_isDone_239 rfl f_Mod_9 (by omega) hO rfl ?_
      refine j_iload_n (pc' := 243) (z := x9) dX12_isDone_242 rfl rfl ?_
      refine j_iload_n (pc' := 244) (z := (E a)) dX12_isDone_243 rfl rfl ?_
      refine j_bipush (pc' := 246) dX12_isDone_244 rfl (by decide) ?_
      refine j_icmp_ne (tgt := 253) (pc' := 249) dX12_isDone_246 (by decide) rfl (by omega) (by omega) (fun h246 => ?_) (fun h246 => ?_)
      · exact absurd h8 (by omega)
      · refine j_iconst (pc' := 250) dX12_isDone_249 rfl ?_
        refine j_goto (pc' := 254) dX12_isDone_250 (by decide) ?_
        refine j_callS (pc' := 257) (as := [aR 54, aI x9, aI 1]) (rest := []) dX12_isDone_254 rfl s_Mod_107 (c_Mod_puts hS (by omega) (by omega)) rfl rfl rfl (jdet (st' := []) rfl ?_)
        refine j_iconst (pc' := 258) dX12_isDone_257 rfl ?_
        have hyes : 0 ≤ (stq E a (D, n, mi)).1 := by rw [hstp]; show 0 ≤ holdR D n x9; unfold holdR; rw [if_pos (by omega), if_neg (by omega)]; have := hD x9 (by omega) (by omega); have := secs_bd (k := D 0 x9) (f := D 1 x9) (by omega); omega
        exact j_zret1 dX12_isDone_258 rfl ⟨(rt_b1 (w0 := w) hyes).1, upi (upi S (6 + 6 * x9 + 4) 1) (6 + 6 * x9 + 5) 0, rfl, fun _ => by rw [hstp]; show Row _ (holdD D n x9) n mi; rw [show holdD D n x9 = upD D 4 x9 1 from if_pos (by omega)]; exact (hR.put (p := x9) (x := 1) (by omega) (by omega))⟩
    · refine j_iconst (pc' := 237) dX12_isDone_236 rfl ?_
      have hno : ¬ 0 ≤ (stq E a (D, n, mi)).1 := by rw [hstp]; show ¬ 0 ≤ holdR D n x9; unfold holdR; by_cases q9 : 0 ≤ x9 ∧ x9 < n; (rw [if_pos q9, if_pos (by omega)]; omega); (rw [if_neg q9]; omega)
      exact j_zret0 dX12_isDone_237 rfl ⟨(rt_b0 (w0 := w) hno).1, S, (up_id hS).symm, fun q => absurd q hno⟩
  · refine j_tsw (tgt := 191) dX12_isDone_8 hx8 (by omega) (by rw [h8]; rfl) (by decide) ?_
    have hv0 : v 0 = x9 := by rw [hx9]; exact hN.2 (by omega)
    rw [hv0]
    have hstp := hstq; rw [h8, stp_l] at hstp; dsimp only at hstp
    refine j_aload_n (pc' := 192) (z := 53) dX12_isDone_191 rfl rfl ?_
    refine j_get (pc' := 195) (v := aR 54) dX12_isDone_192 rfl f_Mod_9 (by omega) hO rfl ?_
    refine j_iconst (pc' := 196) dX12_isDone_195 rfl ?_
    refine j_iload_n (pc' := 197) (z := x9) dX12_isDone_196 rfl rfl ?_
    refine j_iast (pc' := 198) dX12_isDone_197 rfl (by omega) hS (by omega) (by decide) ?_
    refine j_iload_n (pc' := 199) (z := x9) dX12_isDone_198 rfl rfl ?_
    refine j_iconst (pc' := 200) dX12_isDone_199 rfl ?_
    refine j_icmp_gt (tgt := 207) (pc' := 203) dX12_isDone_200 (by decide) rfl (by omega) (by omega) (fun h200 => ?_) (fun h200 => ?_)
    · refine j_iconst (pc' := 208) dX12_isDone_207 rfl ?_
      have hno : ¬ 0 ≤ (stq E a (D, n, mi)).1 := by rw [hstp]; show ¬ 0 ≤ chR D 2 x9; unfold chR; rw [if_neg (by have := mos2; omega)]; omega
      exact j_zret0 dX12_isDone_208 rfl ⟨(rt_b0 (w0 := w) hno).1, upi S 4 x9, rfl, fun q => absurd q hno⟩
    · refine j_iconst (pc' := 204) dX12_isDone_203 rfl ?_
      refine j_goto (pc' := 208) dX12_isDone_204 (by decide) ?_
      have hyes : 0 ≤ (stq E a (D, n, mi)).1 := by rw [hstp]; show 0 ≤ chR D 2 x9; unfold chR; rw [if_pos (by have := mos2; omega)]; omega
      exact j_zret1 dX12_isDone_208 rfl ⟨(rt_b1 (w0 := w) hyes).1, upi S 4 x9, rfl, fun _ => by rw [hstp]; show Row _ (chD D 2 x9) n mi; rw [show chD D 2 x9 = upD D 6 2 x9 from if_pos (by have := mos2; omega)]; exact ((hR.set (k := 2) (x := x9) (by omega)).ex rfl)⟩
  · refine j_tsw (tgt := 259) dX12_isDone_8 hx8 (by omega) (by rw [h8]; rfl) (by decide) ?_
    have hv0 : v 0 = x9 := by rw [hx9]; exact hN.2 (by omega)
    rw [hv0]
    have hstp := hstq; rw [h8, stp_o] at hstp; dsimp only at hstp
    refine j_aload_n (pc' := 260) (z := 53) dX12_isDone_259 rfl rfl ?_
    refine j_iload_n (pc' := 261) (z := x9) dX12_isDone_260 rfl rfl ?_
    refine j_callV (pc' := 264) (as := [aI x9]) (rest := []) dX12_isDone_261 rfl s_Mod_103 (c_Mod_isPartX hO hS hR hB (by omega)) (by omega) hO rfl rfl rfl rfl (jdet (st' := [aB (0 ≤ x9 ∧ x9 < n)]) rfl ?_)
    refine j_ifb_ne (tgt := 269) (pc' := 267) dX12_isDone_264 (by decide) rfl (fun h264 => ?_) (fun h264 => ?_)
    · refine j_aload_n (pc' := 270) (z := 53) dX12_isDone_269 rfl rfl ?_
      have hDp := hD x9 (by omega) (by omega)
      refine j_get (pc' := 273) (v := aR 54) dX12_isDone_270 rfl f_Mod_9 (by omega) hO rfl ?_
      refine j_iload_n (pc' := 274) (z := x9) dX12_isDone_273 rfl rfl ?_
      refine j_aload_n (pc' := 275) (z := 53) dX12_isDone_274 rfl rfl ?_
      refine j_get (pc' := 278) (v := aR 54) dX12_isDone_275 rfl f_Mod_9 (by omega) hO rfl ?_
      refine j_iload_n (pc' := 279) (z := x9) dX12_isDone_278 rfl rfl ?_
      refine j_iconst (pc' := 280) dX12_isDone_279 rfl ?_
      refine j_callS (pc' := 283) (as := [aI x9, aI 4]) (rest := [aR 54, aI x9, aR 54]) dX12_isDone_280 rfl s_Mod_53 c_Mod_at rfl rfl rfl (jdet (st' := [aI (6 + 6 * x9 + 4), aR 54, aI x9, aR 54]) rfl ?_)
      refine j_iald (pc' := 284) dX12_isDone_283 rfl (by omega) hS (by omega) (by decide) ?_
      refine j_top (b := D 4 x9) (hR.pj (j := 4) (p := x9) (by omega) (by omega)) ?_
      refine j_iconst (pc' := 285) dX12_isDone_284 rfl ?_
      refine j_icmp_ne (tgt := 292) (pc' := 288) dX12_isDone_285 (by decide) rfl (by omega) (by omega) (fun h285 => ?_) (fun h285 => ?_)
      · refine j_iconst (pc' := 293) dX12_isDone_292 rfl ?_
        refine j_callS (pc' := 296) (as := [aR 54, aI x9, aI 3]) (rest := []) dX12_isDone_293 rfl s_Mod_107 (c_Mod_puts hS (by omega) (by omega)) rfl rfl rfl (jdet (st' := []) rfl ?_)
        refine j_iconst (pc' := 297) dX12_isDone_296 rfl ?_
        have hyes : 0 ≤ (stq E a (D, n, mi)).1 := by rw [hstp]; show 0 ≤ outR D n x9; unfold outR; (repeat' split) <;> omega
        exact j_zret1 dX12_isDone_297 rfl ⟨(rt_b1 (w0 := w) hyes).1, upi (upi S (6 + 6 * x9 + 4) 3) (6 + 6 * x9 + 5) 0, rfl, fun _ => by rw [hstp]; show Row _ (outD D n x9) n mi; rw [show outD D n x9 = upD D 4 x9 3 from (by unfold outD; rw [if_pos (by omega)]; first | rw [if_pos (by omega)] | rw [if_neg (by omega)])]; exact (hR.put (p := x9) (x := 3) (by omega) (by omega))⟩
      · refine j_iconst (pc' := 289) dX12_isDone_288 rfl ?_
        refine j_goto (pc' := 293) dX12_isDone_289 (by decide) ?_
        refine j_callS (pc' := 296) (as := [aR 54, aI x9, aI 0]) (rest := []) dX12_isDone_293 rfl s_Mod_107 (c_Mod_puts hS (by omega) (by omega)) rfl rfl rfl (jdet (st' := []) rfl ?_)
        refine j_iconst (pc' := 297) dX12_isDone_296 rfl ?_
        have hyes : 0 ≤ (stq E a (D, n, mi)).1 := by rw [hstp]; show 0 ≤ outR D n x9; unfold outR; (repeat' split) <;> omega
        exact j_zret1 dX12_isDone_297 rfl ⟨(rt_b1 (w0 := w) hyes).1, upi (upi S (6 + 6 * x9 + 4) 0) (6 + 6 * x9 + 5) 0, rfl, fun _ => by rw [hstp]; show Row _ (outD D n x9) n mi; rw [show outD D n x9 = upD D 4 x9 0 from (by unfold outD; rw [if_pos (by omega)]; first | rw [if_pos (by omega)] | rw [if_neg (by omega)])]; exact (hR.put (p := x9) (x := 0) (by omega) (by omega))⟩
    · refine j_iconst (pc' := 268) dX12_isDone_267 rfl ?_
      have hno : ¬ 0 ≤ (stq E a (D, n, mi)).1 := by rw [hstp]; show ¬ 0 ≤ outR D n x9; unfold outR; rw [if_neg (by omega)]; omega
      exact j_zret0 dX12_isDone_268 rfl ⟨(rt_b0 (w0 := w) hno).1, S, (up_id hS).symm, fun q => absurd q hno⟩
  · refine j_tsw (tgt := 108) dX12_isDone_8 hx8 (by omega) (by rw [h8]; rfl) (by decide) ?_
    have hvj := hN.1 h8
    have hd4 : digB (E a) = 4 := by rw [h8]; decide
    have d0 := hst 0 (by omega) (by omega)
    have d1 := hst 1 (by omega) (by omega)
    have d2 := hst 2 (by omega) (by omega)
    have d3 := hst 3 (by omega) (by omega)
    have w0 := hvj 0 (by omega)
    have w1 := hvj 1 (by omega)
    have w2 := hvj 2 (by omega)
    have w3 := hvj 3 (by omega)
    rw [hd4, numF4] at hx9
    have e0 : x9 / 1000 = v 0 := by omega
    have e1 : x9 / 100 % 10 = v 1 := by omega
    have e2 : x9 / 10 % 10 = v 2 := by omega
    have e3 : x9 % 10 = v 3 := by omega
    have hstp := hstq; rw [h8, stp_p] at hstp; dsimp only at hstp; rw [e0, e1, e2, e3] at hstp
    refine j_iload_n (pc' := 109) (z := (v 0)) dX12_isDone_108 rfl rfl ?_
    refine j_bipush (pc' := 111) dX12_isDone_109 rfl (by decide) ?_
    refine j_icmp_ge (tgt := 146) (pc' := 114) dX12_isDone_111 (by decide) rfl (by omega) (by omega) (fun h111 => ?_) (fun h111 => ?_)
    · refine j_iconst (pc' := 147) dX12_isDone_146 rfl ?_
      have hno : ¬ 0 ≤ (stq E a (D, n, mi)).1 := by rw [hstp]; show ¬ 0 ≤ tiR n (v 0) (v 1) (v 2) (v 3); unfold tiR; (repeat' split) <;> omega
      exact j_zret0 dX12_isDone_147 rfl ⟨(rt_b0 (w0 := w) hno).1, S, (up_id hS).symm, fun q => absurd q hno⟩
    · refine j_aload_n (pc' := 115) (z := 53) dX12_isDone_114 rfl rfl ?_
      refine j_get (pc' := 118) (v := aR 58) dX12_isDone_115 rfl f_Mod_22 (by omega) hO rfl ?_
      refine j_iconst (pc' := 119) dX12_isDone_118 rfl ?_
      refine j_iald (pc' := 120) dX12_isDone_119 rfl (by omega) hnu (by omega) (by decide) ?_
      refine j_callS (pc' := 123) (as := [aI (v 2)]) (rest := []) dX12_isDone_120 rfl s_Mod_111 (c_Mod_isSeat (by omega)) rfl rfl rfl (jdet (st' := [aB (0 ≤ v 2 ∧ v 2 ≤ 3)]) rfl ?_)
      refine j_ifb_eq (tgt := 146) (pc' := 126) dX12_isDone_123 (by decide) rfl (fun h123 => ?_) (fun h123 => ?_)
      · refine j_iconst (pc' := 147) dX12_isDone_146 rfl ?_
        have hno : ¬ 0 ≤ (stq E a (D, n, mi)).1 := by rw [hstp]; show ¬ 0 ≤ tiR n (v 0) (v 1) (v 2) (v 3); unfold tiR; (repeat' split) <;> omega
        exact j_zret0 dX12_isDone_147 rfl ⟨(rt_b0 (w0 := w) hno).1, S, (up_id hS).symm, fun q => absurd q hno⟩
      · refine j_aload_n (pc' := 127) (z := 53) dX12_isDone_126 rfl rfl ?_
        refine j_get (pc' := 130) (v := aR 58) dX12_isDone_127 rfl f_Mod_22 (by omega) hO rfl ?_
        refine j_iconst (pc' := 131) dX12_isDone_130 rfl ?_
        refine j_iald (pc' := 132) dX12_isDone_131 rfl (by omega) hnu (by omega) (by decide) ?_
        refine j_if_eq (tgt := 146) (pc' := 135) dX12_isDone_132 (by decide) rfl (by omega) (fun h132 => ?_) (fun h132 => ?_)
        · refine j_iconst (pc' := 147) dX12_isDone_146 rfl ?_
          have hno : ¬ 0 ≤ (stq E a (D, n, mi)).1 := by rw [hstp]; show ¬ 0 ≤ tiR n (v 0) (v 1) (v 2) (v 3); unfold tiR; (repeat' split) <;> omega
          exact j_zret0 dX12_isDone_147 rfl ⟨(rt_b0 (w0 := w) hno).1, S, (up_id hS).symm, fun q => absurd q hno⟩
        · refine j_aload_n (pc' := 136) (z := 53) dX12_isDone_135 rfl rfl ?_
          refine j_get (pc' := 139) (v := aR 54) dX12_isDone_136 rfl f_Mod_9 (by omega) hO rfl ?_
          refine j_iconst (pc' := 140) dX12_isDone_139 rfl ?_
          refine j_iald (pc' := 141) dX12_isDone_140 rfl (by omega) hS (by omega) (by decide) ?_
          refine j_top (b := n) hR.pn ?_
          refine j_bipush (pc' := 143) dX12_isDone_141 rfl (by decide) ?_
          refine j_icmp_ne (tgt := 148) (pc' := 146) dX12_isDone_143 (by decide) rfl (by omega) (by omega) (fun h143 => ?_) (fun h143 => ?_)
          · refine j_aload_n (pc' := 149) (z := 53) dX12_isDone_148 rfl rfl ?_
            refine j_iload_n (pc' := 150) (z := (v 0)) dX12_isDone_149 rfl rfl ?_
            refine j_aload_n (pc' := 151) (z := 53) dX12_isDone_150 rfl rfl ?_
            refine j_get (pc' := 154) (v := aR 58) dX12_isDone_151 rfl f_Mod_22 (by omega) hO rfl ?_
            refine j_iconst (pc' := 155) dX12_isDone_154 rfl ?_
            refine j_iald (pc' := 156) dX12_isDone_155 rfl (by omega) hnu (by omega) (by decide) ?_
            refine j_aload_n (pc' := 157) (z := 53) dX12_isDone_156 rfl rfl ?_
            refine j_get (pc' := 160) (v := aR 58) dX12_isDone_157 rfl f_Mod_22 (by omega) hO rfl ?_
            refine j_iconst (pc' := 161) dX12_isDone_160 rfl ?_
            refine j_iald (pc' := 162) dX12_isDone_161 rfl (by omega) hnu (by omega) (by decide) ?_
            refine j_aload_n (pc' := 163) (z := 53) dX12_isDone_162 rfl rfl ?_
            refine j_get (pc' := 166) (v := aR 58) dX12_isDone_163 rfl f_Mod_22 (by omega) hO rfl ?_
            refine j_iconst (pc' := 167) dX12_isDone_166 rfl ?_
            refine j_iald (pc' := 168) dX12_isDone_167 rfl (by omega) hnu (by omega) (by decide) ?_
            refine j_callV (pc' := 171) (as := [aI (v 0), aI (v 1), aI (v 2), aI (v 3)]) (rest := []) dX12_isDone_168 rfl s_Mod_114 (c_Mod_addsPart hO hS hR (by omega)) (by omega) hO rfl rfl rfl rfl (jdet (st' := []) rfl ?_)
            refine j_iconst (pc' := 172) dX12_isDone_171 rfl ?_
            have hyes : 0 ≤ (stq E a (D, n, mi)).1 := by rw [hstp]; show 0 ≤ tiR n (v 0) (v 1) (v 2) (v 3); unfold tiR; (repeat' split) <;> omega
            exact j_zret1 dX12_isDone_172 rfl ⟨(rt_b1 (w0 := w) hyes).1, upi (upi (upi (upi (upi (upi (upi S (6 + 6 * n + 0) (v 0)) (6 + 6 * n + 1) (v 1)) (6 + 6 * n + 2) (v 2)) (6 + 6 * n + 3) (v 3)) (6 + 6 * n + 4) 0) (6 + 6 * n + 5) 0) 0 (n + 1), rfl, fun _ => by rw [hstp]; show Row _ (tiD D n (v 0) (v 1) (v 2) (v 3)) (tiN n (v 0) (v 1) (v 2) (v 3)) mi; rw [show tiD D n (v 0) (v 1) (v 2) (v 3) = inD D n (v 0) (v 1) (v 2) (v 3) from if_pos (by omega), show tiN n (v 0) (v 1) (v 2) (v 3) = n + 1 from if_pos (by omega)]; exact (hR.add (k := (v 0)) (f := (v 1)) (s := (v 2)) (v := (v 3)) (x := 0) (by omega))⟩
          · refine j_iconst (pc' := 147) dX12_isDone_146 rfl ?_
            have hno : ¬ 0 ≤ (stq E a (D, n, mi)).1 := by rw [hstp]; show ¬ 0 ≤ tiR n (v 0) (v 1) (v 2) (v 3); unfold tiR; (repeat' split) <;> omega
            exact j_zret0 dX12_isDone_147 rfl ⟨(rt_b0 (w0 := w) hno).1, S, (up_id hS).symm, fun q => absurd q hno⟩
  · refine j_tsw (tgt := 209) dX12_isDone_8 hx8 (by omega) (by rw [h8]; rfl) (by decide) ?_
    have hv0 : v 0 = x9 := by rw [hx9]; exact hN.2 (by omega)
    rw [hv0]
    have hstp := hstq; rw [h8, stp_r] at hstp; dsimp only at hstp
    refine j_aload_n (pc' := 210) (z := 53) dX12_isDone_209 rfl rfl ?_
    refine j_get (pc' := 213) (v := aR 54) dX12_isDone_210 rfl f_Mod_9 (by omega) hO rfl ?_
    refine j_iconst (pc' := 214) dX12_isDone_213 rfl ?_
    refine j_iload_n (pc' := 215) (z := x9) dX12_isDone_214 rfl rfl ?_
    refine j_iast (pc' := 216) dX12_isDone_215 rfl (by omega) hS (by omega) (by decide) ?_
    refine j_iload_n (pc' := 217) (z := x9) dX12_isDone_216 rfl rfl ?_
    refine j_bipush (pc' := 219) dX12_isDone_217 rfl (by decide) ?_
    refine j_icmp_gt (tgt := 226) (pc' := 222) dX12_isDone_219 (by decide) rfl (by omega) (by omega) (fun h219 => ?_) (fun h219 => ?_)
    · refine j_iconst (pc' := 227) dX12_isDone_226 rfl ?_
      have hno : ¬ 0 ≤ (stq E a (D, n, mi)).1 := by rw [hstp]; show ¬ 0 ≤ chR D 3 x9; unfold chR; rw [if_neg (by have := mos3; omega)]; omega
      exact j_zret0 dX12_isDone_227 rfl ⟨(rt_b0 (w0 := w) hno).1, upi S 5 x9, rfl, fun q => absurd q hno⟩
    · refine j_iconst (pc' := 223) dX12_isDone_222 rfl ?_
      refine j_goto (pc' := 227) dX12_isDone_223 (by decide) ?_
      have hyes : 0 ≤ (stq E a (D, n, mi)).1 := by rw [hstp]; show 0 ≤ chR D 3 x9; unfold chR; rw [if_pos (by have := mos3; omega)]; omega
      exact j_zret1 dX12_isDone_227 rfl ⟨(rt_b1 (w0 := w) hyes).1, upi S 5 x9, rfl, fun _ => by rw [hstp]; show Row _ (chD D 3 x9) n mi; rw [show chD D 3 x9 = upD D 6 3 x9 from if_pos (by have := mos3; omega)]; exact ((hR.set (k := 3) (x := x9) (by omega)).ex rfl)⟩
  · refine j_tsw (tgt := 173) dX12_isDone_8 hx8 (by omega) (by rw [h8]; rfl) (by decide) ?_
    have hv0 : v 0 = x9 := by rw [hx9]; exact hN.2 (by omega)
    rw [hv0]
    have hstp := hstq; rw [h8, stp_s] at hstp; dsimp only at hstp
    refine j_aload_n (pc' := 174) (z := 53) dX12_isDone_173 rfl rfl ?_
    refine j_get (pc' := 177) (v := aR 54) dX12_isDone_174 rfl f_Mod_9 (by omega) hO rfl ?_
    refine j_iconst (pc' := 178) dX12_isDone_177 rfl ?_
    refine j_iload_n (pc' := 179) (z := x9) dX12_isDone_178 rfl rfl ?_
    refine j_iast (pc' := 180) dX12_isDone_179 rfl (by omega) hS (by omega) (by decide) ?_
    refine j_iconst (pc' := 181) dX12_isDone_180 rfl ?_
    have hyes : 0 ≤ (stq E a (D, n, mi)).1 := by rw [hstp]; show 0 ≤ chR D 0 x9; unfold chR; rw [if_pos (by have := mos0; omega)]; omega
    exact j_zret1 dX12_isDone_181 rfl ⟨(rt_b1 (w0 := w) hyes).1, upi S 2 x9, rfl, fun _ => by rw [hstp]; show Row _ (chD D 0 x9) n mi; rw [show chD D 0 x9 = upD D 6 0 x9 from if_pos (by have := mos0; omega)]; exact ((hR.set (k := 0) (x := x9) (by omega)).ex rfl)⟩
  · refine j_tsw (tgt := 298) dX12_isDone_8 hx8 (by omega) (by rw [h8]; rfl) (by decide) ?_
    have hv0 : v 0 = x9 := by rw [hx9]; exact hN.2 (by omega)
    rw [hv0]
    have hstp := hstq; rw [h8, stp_t] at hstp; dsimp only at hstp
    refine j_aload_n (pc' := 299) (z := 53) dX12_isDone_298 rfl rfl ?_
    refine j_iload_n (pc' := 300) (z := x9) dX12_isDone_299 rfl rfl ?_
    refine j_callV (pc' := 303) (as := [aI x9]) (rest := []) dX12_isDone_300 rfl s_Mod_103 (c_Mod_isPartX hO hS hR hB (by omega)) (by omega) hO rfl rfl rfl rfl (jdet (st' := [aB (0 ≤ x9 ∧ x9 < n)]) rfl ?_)
    refine j_ifb_ne (tgt := 308) (pc' := 306) dX12_isDone_303 (by decide) rfl (fun h303 => ?_) (fun h303 => ?_)
    · refine j_aload_n (pc' := 309) (z := 53) dX12_isDone_308 rfl rfl ?_
      refine j_get (pc' := 312) (v := aR 54) dX12_isDone_309 rfl f_Mod_9 (by omega) hO rfl ?_
      refine j_iload_n (pc' := 313) (z := x9) dX12_isDone_312 rfl rfl ?_
      refine j_callS (pc' := 316) (as := [aR 54, aI x9]) (rest := []) dX12_isDone_313 rfl s_Mod_121 (c_Mod_screw hS (by omega) hR hB (by omega)) rfl rfl rfl (fun r9 w9 h9 => ?_)
      obtain ⟨rfl, S2, hR2, rfl⟩ := h9
      refine j_st (st' := [aI (scrD D n x9 1 (nxt n x9))]) rfl ?_
      refine j_istore_n (pc' := 317) (L' := [some (aR 53), some (aI (E a)), some (aI x9), some (aI (scrD D n x9 1 (nxt n x9)))]) dX12_isDone_316 rfl (by decide) rfl ?_
      refine j_iconst (pc' := 318) dX12_isDone_317 rfl ?_
      have hyes : 0 ≤ (stq E a (D, n, mi)).1 := by rw [hstp]; show 0 ≤ scrR D n x9; have hh := hB.scr (p := x9) (by omega); have hnx : 0 ≤ nxt n x9 ∧ nxt n x9 < n := (by unfold nxt; split <;> omega); have := (hh.2.1 (nxt n x9) (by omega) (by omega)).2.1; unfold scrR; rw [if_pos (by omega)]; omega
      exact j_zret1 dX12_isDone_318 rfl ⟨(rt_b1 (w0 := w) hyes).1, S2, rfl, fun _ => by rw [hstp]; show Row _ (scwD D n x9) n mi; rw [show scwD D n x9 = scrD D n x9 from if_pos (by omega)]; exact hR2⟩
    · refine j_iconst (pc' := 307) dX12_isDone_306 rfl ?_
      have hno : ¬ 0 ≤ (stq E a (D, n, mi)).1 := by rw [hstp]; show ¬ 0 ≤ scrR D n x9; unfold scrR; rw [if_neg (by omega)]; omega
      exact j_zret0 dX12_isDone_307 rfl ⟨(rt_b0 (w0 := w) hno).1, S, (up_id hS).symm, fun q => absurd q hno⟩
  · refine j_tsw (tgt := 228) dX12_isDone_8 hx8 (by omega) (by rw [h8]; rfl) (by decide) ?_
    have hv0 : v 0 = x9 := by rw [hx9]; exact hN.2 (by omega)
    rw [hv0]
    have hstp := hstq; rw [h8, stp_w] at hstp; dsimp only at hstp
    refine j_aload_n (pc' := 229) (z := 53) dX12_isDone_228 rfl rfl ?_
    refine j_iload_n (pc' := 230) (z := x9) dX12_isDone_229 rfl rfl ?_
    refine j_callV (pc' := 233) (as := [aI x9]) (rest := []) dX12_isDone_230 rfl s_Mod_118 (c_Mod_isThereX hO hS hR hB (by omega)) (by omega) hO rfl rfl rfl rfl (jdet (st' := [aB ((0 ≤ x9 ∧ x9 < n) ∧ ¬ D 4 x9 = 3)]) rfl ?_)
    refine j_ifb_ne (tgt := 238) (pc' := 236) dX12_isDone_233 (by decide) rfl (fun h233 => ?_) (fun h233 => ?_)
    · refine j_aload_n (pc' := 239) (z := 53) dX12_isDone_238 rfl rfl ?_
      refine j_get (pc' := 242) (v := aR 54) dX12_isDone_239 rfl f_Mod_9 (by omega) hO rfl ?_
      refine j_iload_n (pc' := 243) (z := x9) dX12_isDone_242 rfl rfl ?_
      refine j_iload_n (pc' := 244) (z := (E a)) dX12_isDone_243 rfl rfl ?_
      refine j_bipush (pc' := 246) dX12_isDone_244 rfl (by decide) ?_
      refine j_icmp_ne (tgt := 253) (pc' := 249) dX12_isDone_246 (by decide) rfl (by omega) (by omega) (fun h246 => ?_) (fun h246 => ?_)
      · refine j_iconst (pc' := 254) dX12_isDone_253 rfl ?_
        refine j_callS (pc' := 257) (as := [aR 54, aI x9, aI 2]) (rest := []) dX12_isDone_254 rfl s_Mod_107 (c_Mod_puts hS (by omega) (by omega)) rfl rfl rfl (jdet (st' := []) rfl ?_)
        refine j_iconst (pc' := 258) dX12_isDone_257 rfl ?_
        have hyes : 0 ≤ (stq E a (D, n, mi)).1 := by rw [hstp]; show 0 ≤ wedR D n x9; unfold wedR; rw [if_pos (by omega), if_neg (by omega)]; have := hD x9 (by omega) (by omega); omega
        exact j_zret1 dX12_isDone_258 rfl ⟨(rt_b1 (w0 := w) hyes).1, upi (upi S (6 + 6 * x9 + 4) 2) (6 + 6 * x9 + 5) 0, rfl, fun _ => by rw [hstp]; show Row _ (wedD D n x9) n mi; rw [show wedD D n x9 = upD (upD D 4 x9 2) 5 x9 0 from if_pos (by omega)]; exact (hR.putW (p := x9) (by omega))⟩
      · exact absurd h8 (by omega)
    · refine j_iconst (pc' := 237) dX12_isDone_236 rfl ?_
      have hno : ¬ 0 ≤ (stq E a (D, n, mi)).1 := by rw [hstp]; show ¬ 0 ≤ wedR D n x9; unfold wedR; by_cases q9 : 0 ≤ x9 ∧ x9 < n; (rw [if_pos q9, if_pos (by omega)]; omega); (rw [if_neg q9]; omega)
      exact j_zret0 dX12_isDone_237 rfl ⟨(rt_b0 (w0 := w) hno).1, S, (up_id hS).symm, fun q => absurd q hno⟩
