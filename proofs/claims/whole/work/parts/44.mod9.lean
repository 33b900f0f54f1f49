def hldD (D : Int → Int → Int) (set i : Int) : Int → Int → Int := fun j q => if j = 4 ∧ (0 ≤ q ∧ q < i) ∧ bt set q = 1 then 1 else D j q
theorem hld_0 {D : Int → Int → Int} {set : Int} : hldD D set 0 = D := by funext j q; unfold hldD; rw [if_neg (by omega)]
theorem hld_o {D : Int → Int → Int} {set i j : Int} (h : j ≠ 4) : hldD D set i j = D j := by funext q; unfold hldD; rw [if_neg (by omega)]
theorem hld_s {D : Int → Int → Int} {set i : Int} (hi : 0 ≤ i) (h : bt set i = 1) : hldD D set (i + 1) 4 = upi (hldD D set i 4) i 1 := by
  funext q; unfold upi hldD
  by_cases e : q = i
  · subst e; rw [if_pos ⟨rfl, by omega, h⟩, if_pos rfl]
  · rw [if_neg e]
    by_cases c : (4 : Int) = 4 ∧ (0 ≤ q ∧ q < i) ∧ bt set q = 1
    · rw [if_pos c, if_pos ⟨rfl, by omega, c.2.2⟩]
    · rw [if_neg c, if_neg (fun z => c ⟨rfl, by omega, z.2.2⟩)]
theorem hld_k {D : Int → Int → Int} {set i : Int} (h : ¬ bt set i = 1) : hldD D set i = hldD D set (i + 1) := by
  funext j q; unfold hldD
  by_cases e : q = i
  · subst e; rw [if_neg (by omega), if_neg (fun z => h z.2.2)]
  · by_cases c : j = 4 ∧ (0 ≤ q ∧ q < i) ∧ bt set q = 1
    · rw [if_pos c, if_pos ⟨c.1, by omega, c.2.2⟩]
    · rw [if_neg c, if_neg (fun z => c ⟨z.1, by omega, z.2.2⟩)]
theorem CarOK.hld {D : Int → Int → Int} {n mi set i : Int} (hB : CarOK D n mi) : CarOK (hldD D set i) n mi := by
  obtain ⟨hn, hD, hs⟩ := hB
  refine ⟨hn, fun q h1 h2 => ?_, by rw [hld_o (by omega)]; exact hs⟩
  rw [hld_o (j := 0) (by omega), hld_o (j := 1) (by omega), hld_o (j := 2) (by omega), hld_o (j := 3) (by omega), hld_o (j := 5) (by omega)]
  have := hD q h1 h2
  refine ⟨this.1, this.2.1, this.2.2.1, this.2.2.2.1, ?_, this.2.2.2.2.2⟩
  unfold hldD; split <;> omega
theorem hrd_hld {D : Int → Int → Int} {n set pace : Int} : hrd (hldD D set n) n 0 pace = max 0 (sab D n set 0 pace - D 6 3) := by
  have e : sumI (fun p => snd (hldD D set n) p 0 pace) n = sab D n set 0 pace := by
    apply sumI_congr
    intro p h1 h2
    unfold snd
    rw [hld_o (j := 0) (by omega), hld_o (j := 1) (by omega), hld_o (j := 2) (by omega), hld_o (j := 6) (by omega)]
    have hb := bt_01 (x := set) (p := p)
    have e4 : hldD D set n 4 p = if bt set p = 1 then 1 else D 4 p := by
      unfold hldD
      by_cases c : bt set p = 1
      · rw [if_pos c, if_pos ⟨rfl, ⟨h1, h2⟩, c⟩]
      · rw [if_neg c, if_neg (fun z => c z.2.2)]
    rw [e4]
    by_cases c : bt set p = 1
    · rw [if_pos c, if_neg (show ¬ (1 : Int) = 0 by omega), if_neg (show ¬ bt set p = 0 by omega)]
    · rw [if_neg c, if_pos (show bt set p = 0 by omega)]
  unfold hrd
  rw [e, hld_o (j := 6) (by omega)]
theorem fre_bt {D : Int → Int → Int} {n p : Int} (hp : 0 ≤ p ∧ p < n) : bt (freS D n) p = 1 ↔ D 4 p = 0 := by
  unfold freS
  rw [bset_bt' hp]
  exact decide_eq_true_iff
theorem fre_sub {D : Int → Int → Int} {n s : Int} (hn : 0 ≤ n ∧ n ≤ 7) (hs : 0 ≤ s ∧ s < 2 ^ n.toNat) : andn s (freS D n) = 0 ↔ ∀ p, 0 ≤ p → p < n → bt s p = 1 → D 4 p = 0 := by
  have hpw := pow7 hn
  have hf := bset_127 (P := freP D) hn
  constructor
  · intro h p h1 h2 h3
    exact (fre_bt ⟨h1, h2⟩).mp (sub_bt hs.1 hf.1 h h1 h3)
  · intro h
    refine sub_of (by omega) hf.1 (fun p h1 h2 h3 => ?_)
    by_cases c : p < n
    · exact (fre_bt ⟨h1, c⟩).mpr (h p h1 c h3)
    · rw [bt_far hs (by omega) hn.1] at h3; omega
theorem fre_good {D : Int → Int → Int} {n pace : Int} : sab D n (freS D n) 0 pace = 0 := by
  have e : sab D n (freS D n) 0 pace = sumI (fun _ => 0 * (0 : Int)) n := by
    apply sumI_congr
    intro p h1 h2
    have hb := bt_01 (x := freS D n) (p := p)
    by_cases c : bt (freS D n) p = 0
    · rw [if_pos c]
      unfold snd
      rw [if_neg (fun z => by have := (fre_bt ⟨h1, h2⟩).mpr z; omega)]; rfl
    · rw [if_neg c]; rfl
  rw [e]
  unfold sumI foldI
  generalize n.toNat = m
  induction m with
  | zero => rfl
  | succ m ih => show _ + 0 * 0 = (0 : Int); rw [ih]; rfl
theorem pop_lt {s f : Int} (hs : 0 ≤ s ∧ s ≤ 127) (hf : 0 ≤ f ∧ f ≤ 127) (h : andn s f = 0) (hne : s ≠ f) : pop s < pop f := by
  have h1 := andn_add hs hf h
  have h2 := pop_add (bsum_of hs.1 hf.1 h)
  have h3 := andn_le (a := f) (b := s) hf.1
  have := pop_ge1 (a := andn f s) (by omega)
  omega
/-- what the reference has found when the sets below s are seen -/
def hoI (D : Int → Int → Int) (n s f : Int) : Prop := (f = -1 ∧ s ≤ freS D n ∧ fth D n s = freS D n) ∨ ((0 ≤ f ∧ f ≤ 127) ∧ fth D n s = f)
theorem fth_s {D : Int → Int → Int} {n s : Int} (h : 0 ≤ s) : fth D n (s + 1) = fthG D n s (fth D n s) := foldI_s h
theorem ho_0 {D : Int → Int → Int} {n : Int} (hn : 0 ≤ n ∧ n ≤ 7) : hoI D n 0 (-1) := Or.inl ⟨rfl, (bset_127 (P := freP D) hn).1, rfl⟩
theorem ho_skip {D : Int → Int → Int} {n s f : Int} (hs : 0 ≤ s) (h : hoI D n s f) (h0 : 0 ≤ f) (hp : pop f ≤ pop s) : hoI D n (s + 1) f := by
  rcases h with ⟨q, _⟩ | ⟨q1, q2⟩
  · omega
  · refine Or.inr ⟨q1, ?_⟩
    rw [fth_s hs, q2]; unfold fthG; rw [if_neg (by omega)]
theorem ho_bad {D : Int → Int → Int} {n mi s f : Int} (hB : CarOK D n mi) (hs : 0 ≤ s ∧ s < 2 ^ n.toNat) (h : hoI D n s f) (hg : ¬ (andn s (freS D n) = 0 ∧ sab D n s 0 (D 6 0) ≤ D 6 3)) : hoI D n (s + 1) f := by
  have hr := hB.2.2.2.2.2
  have hn := hB.1
  have hf := bset_127 (P := freP D) (n := n) (by omega)
  have hff : 0 ≤ freS D n ∧ freS D n ≤ 127 := hf
  rcases h with ⟨q1, q2, q3⟩ | ⟨q1, q2⟩
  · refine Or.inl ⟨q1, ?_, ?_⟩
    · by_cases c : s = freS D n
      · exfalso
        apply hg
        rw [c]
        refine ⟨sub_of hff hff.1 (fun p _ _ z => z), by rw [fre_good]; omega⟩
      · omega
    · rw [fth_s hs.1, q3]; unfold fthG; rw [if_neg (fun z => hg ⟨z.1, z.2.2⟩)]
  · refine Or.inr ⟨q1, ?_⟩
    rw [fth_s hs.1, q2]; unfold fthG; rw [if_neg (fun z => hg ⟨z.1, z.2.2⟩)]
theorem ho_good {D : Int → Int → Int} {n mi s f : Int} (hB : CarOK D n mi) (hs : 0 ≤ s ∧ s < 2 ^ n.toNat) (h : hoI D n s f) (hg : andn s (freS D n) = 0 ∧ sab D n s 0 (D 6 0) ≤ D 6 3) (hp : f < 0 ∨ pop s < pop f) : hoI D n (s + 1) s := by
  have hn := hB.1
  have hpw := pow7 (n := n) (by omega)
  have hf := bset_127 (P := freP D) (n := n) (by omega)
  have hff : 0 ≤ freS D n ∧ freS D n ≤ 127 := hf
  refine Or.inr ⟨by omega, ?_⟩
  rw [fth_s hs.1]
  rcases h with ⟨q1, q2, q3⟩ | ⟨q1, q2⟩
  · rw [q3]; unfold fthG
    by_cases c : s = freS D n
    · rw [if_neg (fun z => by rw [c] at z; omega), c]
    · rw [if_pos ⟨hg.1, pop_lt (by omega) hff hg.1 c, hg.2⟩]
  · rw [q2]; unfold fthG
    rw [if_pos ⟨hg.1, by omega, hg.2⟩]
theorem ho_end {D : Int → Int → Int} {n s f : Int} (hn : 0 ≤ n ∧ n ≤ 7) (h : hoI D n s f) (hs : s = 2 ^ n.toNat) : (0 ≤ f ∧ f ≤ 127) ∧ fth D n (2 ^ n.toNat) = f := by
  have hf : 0 ≤ freS D n ∧ freS D n < 2 ^ n.toNat := bset_bd' (P := freP D) hn.1
  rcases h with ⟨q1, q2, q3⟩ | ⟨q1, q2⟩
  · omega
  · rw [← hs]; exact ⟨q1, q2⟩
def wtR (x r : Int) : Int := if r = -4 then -4 else wtV x r
theorem wt_st {P : Int → Bool} {M k : Int} (hk : 0 ≤ k ∧ k < M) : fstI P (M - (k + 1)) (k + 1).toNat = if P (M - 1 - k) = true then M - 1 - k else fstI P (M - k) k.toNat := by
  rw [show (k + 1).toNat = k.toNat + 1 by omega, fstI, show M - (k + 1) = M - 1 - k by omega, show M - 1 - k + 1 = M - k by omega]
set_option maxRecDepth 100000 in
set_option maxHeartbeats 4000000 in
theorem c_Mod_holdAll {l : Launch} {w : AW} {D Di : Int → Int → Int} {n mi hi ni mj : Int} {sh E : Int → Int → Int} {x : Int} (hM : Mod w D n mi hi Di ni mj sh E) (hB : CarOK D n mi) (hI : CarOK Di ni mj) (hhi : hi = 0 ∨ hi = 1) (hsh : ShOK sh E) (hwd : WdOK D) (hx : inI x) : Call l m_Mod_holdAll false 68 68 [aR 53, aI x] w (jM w (holdAllA D n x) D n mi hi Di ni mj sh E) := by
  have hT := MS.rf hM
  have hM0 := hM
  obtain ⟨⟨pc, ra, re, fm, se, th, hO⟩, ⟨S, hS, hR⟩, ⟨Sm, hSm⟩, ⟨Si, hSi, hRi⟩, ⟨Sw, hSw⟩, ⟨nu, hnu⟩, ⟨ha, hha⟩, ⟨fg, hfg⟩, ke, kk, kf, so, si, el, ⟨hke, hkk, hkf, hso, hsi, hel⟩, hRel⟩ := hM
  obtain ⟨hn, hD, hs0, hs1, hs2, hs3⟩ := id hB
  refine Call.of (L := [some (aR 53), some (aI x), none, none, none, none]) rfl (Nat.le_of_ble_eq_true rfl) rfl (fun G ad => ?_)
  refine j_iload_n (pc' := 1) (z := x) dX12_holdAll_0 rfl rfl ?_
  refine j_iconst (pc' := 2) dX12_holdAll_1 rfl ?_
  refine j_iconst (pc' := 3) dX12_holdAll_2 rfl ?_
  refine j_callS (pc' := 6) (as := [aI x, aI 0, aI 1]) (rest := []) dX12_holdAll_3 rfl s_Mod_49 (c_Mod_isIn (by omega) (by omega) (by omega)) rfl rfl rfl (jdet (st' := [aB (0 ≤ x ∧ x ≤ 1)]) rfl ?_)
  refine j_ifb_ne (tgt := 11) (pc' := 9) dX12_holdAll_6 (by decide) rfl (fun h6 => ?_) (fun h6 => ?_)
  · refine j_iconst (pc' := 12) dX12_holdAll_11 rfl ?_
    refine j_istore_n (pc' := 13) (L' := [some (aR 53), some (aI x), some (aI (-1)), none, none, none]) dX12_holdAll_12 rfl (by decide) rfl ?_
    refine j_iconst (pc' := 14) dX12_holdAll_13 rfl ?_
    refine j_istore_n (pc' := 15) (L' := [some (aR 53), some (aI x), some (aI (-1)), some (aI 0), none, none]) dX12_holdAll_14 rfl (by decide) rfl ?_
    have lp15 : ∀ (k9 : Nat) (f : Int) (X : Int → Int) (s : Int), (0 ≤ s ∧ s ≤ 2 ^ n.toNat) → (hoI D n s f) → ((2 ^ n.toNat - s).toNat) = k9 → J l m_Mod_holdAll ad G [] false (jZ ad G false 68 m_Mod_holdAll.2.2.2.2.cells m_Mod_holdAll.2.2.2.2.slots (jM w (holdAllA D n x) D n mi hi Di ni mj sh E)) 68 0 0 15 [some (aR 53), some (aI x), some (aI f), some (aI s), none, none] [] (up w 55 (eI 48 X)) := by
      intro k9
      induction k9 using Nat.strongRecOn with
      | _ k9 ih15 =>
        intro f X s hs9 hH hk15
        refine j_iload_n (pc' := 16) (z := s) dX12_holdAll_15 rfl rfl ?_
        have hpw := pow7 (n := n) (by omega)
        refine j_iconst (pc' := 17) dX12_holdAll_16 rfl ?_
        refine j_aload_n (pc' := 18) (z := 53) dX12_holdAll_17 rfl rfl ?_
        refine j_get (pc' := 21) (v := aR 54) dX12_holdAll_18 rfl f_Mod_9 (by omega) ((up_n (by omega)).trans hO) rfl ?_
        refine j_iconst (pc' := 22) dX12_holdAll_21 rfl ?_
        refine j_iald (pc' := 23) dX12_holdAll_22 rfl (by omega) ((up_n (by omega)).trans hS) (by omega) (by decide) ?_
        refine j_top (b := n) hR.pn ?_
        refine j_ishl1 (pc' := 24) dX12_holdAll_23 rfl (by omega) ?_
        refine j_icmp_ge (tgt := 150) (pc' := 27) dX12_holdAll_24 (by decide) rfl (by omega) (by omega) (fun h24 => ?_) (fun h24 => ?_)
        · have hpw := pow7 (n := n) (by omega)
          obtain ⟨he1, he2⟩ := ho_end (by omega) hH (by omega)
          refine j_iload_n (pc' := 151) (z := x) dX12_holdAll_150 rfl rfl ?_
          refine j_if_ne (tgt := 156) (pc' := 154) dX12_holdAll_151 (by decide) rfl (by omega) (fun h151 => ?_) (fun h151 => ?_)
          · refine j_iconst (pc' := 157) dX12_holdAll_156 rfl ?_
            refine j_istore_n (pc' := 158) (L' := [some (aR 53), some (aI x), some (aI f), some (aI 0), none, none]) dX12_holdAll_157 rfl (by decide) rfl ?_
            refine j_iconst (pc' := 159) dX12_holdAll_158 rfl ?_
            refine j_istore (pc' := 161) (L' := [some (aR 53), some (aI x), some (aI f), some (aI 0), some (aI 0), none]) dX12_holdAll_159 rfl (by decide) rfl ?_
            have lp161 : ∀ (k9 : Nat) (v : Int) (i : Int), (0 ≤ i ∧ i ≤ n) → (v = secO D i f) → ((n - i).toNat) = k9 → J l m_Mod_holdAll ad G [] false (jZ ad G false 68 m_Mod_holdAll.2.2.2.2.cells m_Mod_holdAll.2.2.2.2.slots (jM w (holdAllA D n x) D n mi hi Di ni mj sh E)) 68 0 0 161 [some (aR 53), some (aI x), some (aI f), some (aI v), some (aI i), none] [] (up w 55 (eI 48 X)) := by
              intro k9
              induction k9 using Nat.strongRecOn with
              | _ k9 ih161 =>
                intro v i hi9 hv hk161
                refine j_iload (pc' := 163) (z := i) dX12_holdAll_161 rfl rfl ?_
                refine j_aload_n (pc' := 164) (z := 53) dX12_holdAll_163 rfl rfl ?_
                refine j_get (pc' := 167) (v := aR 54) dX12_holdAll_164 rfl f_Mod_9 (by omega) ((up_n (by omega)).trans hO) rfl ?_
                refine j_iconst (pc' := 168) dX12_holdAll_167 rfl ?_
                refine j_iald (pc' := 169) dX12_holdAll_168 rfl (by omega) ((up_n (by omega)).trans hS) (by omega) (by decide) ?_
                refine j_top (b := n) hR.pn ?_
                refine j_icmp_ge (tgt := 204) (pc' := 172) dX12_holdAll_169 (by decide) rfl (by omega) (by omega) (fun h169 => ?_) (fun h169 => ?_)
                · refine j_iload_n (pc' := 205) (z := v) dX12_holdAll_204 rfl rfl ?_
                  exact j_iret dX12_holdAll_205 rfl (jM_of (by unfold holdAllA; rw [if_pos (by omega), if_neg (by omega), he2, hv, show i = n by omega]) hT.m)
                · have hbt : bt f i = f / 2 ^ (Int.toNat i) % 2 ^ 1 := rfl
                  have hb01 := bt_01 (x := f) (p := i)
                  have hDi := hD i (by omega) (by omega)
                  have hsc := secs_bd (k := D 0 i) (f := D 1 i) (by omega)
                  refine j_iload_n (pc' := 173) (z := v) dX12_holdAll_172 rfl rfl ?_
                  refine j_iload_n (pc' := 174) (z := f) dX12_holdAll_173 rfl rfl ?_
                  refine j_iload (pc' := 176) (z := i) dX12_holdAll_174 rfl rfl ?_
                  refine j_ishr (pc' := 177) dX12_holdAll_176 rfl (by omega) (by omega) ?_
                  refine j_iconst (pc' := 178) dX12_holdAll_177 rfl ?_
                  refine j_imask (pc' := 179) 1 dX12_holdAll_178 rfl (by decide) rfl ?_
                  refine j_iconst (pc' := 180) dX12_holdAll_179 rfl ?_
                  refine j_icmp_ne (tgt := 195) (pc' := 183) dX12_holdAll_180 (by decide) rfl (by omega) (by omega) (fun h180 => ?_) (fun h180 => ?_)
                  · refine j_iconst (pc' := 196) dX12_holdAll_195 rfl ?_
                    refine j_iadd (pc' := 197) dX12_holdAll_196 rfl ?_
                    refine j_istore_n (pc' := 198) (L' := [some (aR 53), some (aI x), some (aI f), some (aI (v + 0)), some (aI i), none]) dX12_holdAll_197 rfl (by decide) rfl ?_
                    refine j_iinc (pc' := 201) (z := i) (L' := [some (aR 53), some (aI x), some (aI f), some (aI (v + 0)), some (aI (i + 1)), none]) dX12_holdAll_198 rfl (by decide) rfl rfl rfl ?_
                    refine j_goto (pc' := 161) dX12_holdAll_201 (by decide) ?_
                    exact ih161 _ (by omega) (v + 0) (i + 1) (by omega) (by rw [hv]; unfold secO; rw [sumI_s (by omega)]; first | (rw [if_pos (show bt f i = 1 by omega)]; try omega) | (rw [if_neg (show ¬ bt f i = 1 by omega)]; try omega)) rfl
                  · refine j_aload_n (pc' := 184) (z := 53) dX12_holdAll_183 rfl rfl ?_
                    refine j_get (pc' := 187) (v := aR 54) dX12_holdAll_184 rfl f_Mod_9 (by omega) ((up_n (by omega)).trans hO) rfl ?_
                    refine j_iload (pc' := 189) (z := i) dX12_holdAll_187 rfl rfl ?_
                    refine j_callS (pc' := 192) (as := [aR 54, aI i]) (rest := [aI v]) dX12_holdAll_189 rfl s_Mod_141 (c_Mod_secondsOf ((up_n (by omega)).trans hS) (by omega) hR.w hB (by omega)) rfl rfl rfl (jdet (st' := [aI (secs (D 0 i) (D 1 i)), aI v]) rfl ?_)
                    refine j_goto (pc' := 196) dX12_holdAll_192 (by decide) ?_
                    refine j_iadd (pc' := 197) dX12_holdAll_196 rfl ?_
                    refine j_istore_n (pc' := 198) (L' := [some (aR 53), some (aI x), some (aI f), some (aI (v + (secs (D 0 i) (D 1 i)))), some (aI i), none]) dX12_holdAll_197 rfl (by decide) rfl ?_
                    refine j_iinc (pc' := 201) (z := i) (L' := [some (aR 53), some (aI x), some (aI f), some (aI (v + (secs (D 0 i) (D 1 i)))), some (aI (i + 1)), none]) dX12_holdAll_198 rfl (by decide) rfl rfl rfl ?_
                    refine j_goto (pc' := 161) dX12_holdAll_201 (by decide) ?_
                    exact ih161 _ (by omega) (v + (secs (D 0 i) (D 1 i))) (i + 1) (by omega) (by rw [hv]; unfold secO; rw [sumI_s (by omega)]; first | (rw [if_pos (show bt f i = 1 by omega)]; try omega) | (rw [if_neg (show ¬ bt f i = 1 by omega)]; try omega)) rfl
            exact lp161 _ 0 0 (by omega) (by rfl) rfl
          · refine j_iload_n (pc' := 155) (z := f) dX12_holdAll_154 rfl rfl ?_
            exact j_iret dX12_holdAll_155 rfl (jM_of (by unfold holdAllA; rw [if_pos (by omega), if_pos (by omega), he2]) hT.m)
        · have hpw := pow7 (n := n) (by omega)
          have hfb : f = -1 ∨ (0 ≤ f ∧ f ≤ 127) := by
            rcases hH with ⟨q, _⟩ | ⟨q, _⟩
            · exact Or.inl q
            · exact Or.inr q
          refine j_iload_n (pc' := 28) (z := f) dX12_holdAll_27 rfl rfl ?_
          refine j_if_lt (tgt := 45) (pc' := 31) dX12_holdAll_28 (by decide) rfl (by omega) (fun h28 => ?_) (fun h28 => ?_)
          · refine j_aload_n (pc' := 46) (z := 53) dX12_holdAll_45 rfl rfl ?_
            refine j_get (pc' := 49) (v := aR 54) dX12_holdAll_46 rfl f_Mod_9 (by omega) ((up_n (by omega)).trans hO) rfl ?_
            refine j_aload_n (pc' := 50) (z := 53) dX12_holdAll_49 rfl rfl ?_
            refine j_get (pc' := 53) (v := aR 55) dX12_holdAll_50 rfl f_Mod_13 (by omega) ((up_n (by omega)).trans hO) rfl ?_
            refine j_callS (pc' := 56) (as := [aR 54, aR 55]) (rest := []) dX12_holdAll_53 rfl s_Mod_134 (c_Mod_lays ((up_n (by omega)).trans hS) up_s (by omega) (by omega) (by omega)) rfl rfl rfl (jdet (st' := []) rfl ?_)
            refine j_w (w' := up w 55 (eI 48 S)) (by funext j9; simp only [up]; (repeat' split) <;> first | rfl | (exfalso; omega)) ?_
            refine j_iconst (pc' := 57) dX12_holdAll_56 rfl ?_
            refine j_istore (pc' := 59) (L' := [some (aR 53), some (aI x), some (aI f), some (aI s), some (aI 1), none]) dX12_holdAll_57 rfl (by decide) rfl ?_
            refine j_iconst (pc' := 60) dX12_holdAll_59 rfl ?_
            refine j_istore (pc' := 62) (L' := [some (aR 53), some (aI x), some (aI f), some (aI s), some (aI 1), some (aI 0)]) dX12_holdAll_60 rfl (by decide) rfl ?_
            have lp62 : ∀ (k9 : Nat) (z : Int) (X : Int → Int) (i : Int), (0 ≤ i ∧ i ≤ n) → (Rw X (hldD D s i) n mi) → (0 ≤ z ∧ z ≤ 1) → (z = 1 ↔ ∀ q, 0 ≤ q → q < i → bt s q = 1 → D 4 q = 0) → ((n - i).toNat) = k9 → J l m_Mod_holdAll ad G [] false (jZ ad G false 68 m_Mod_holdAll.2.2.2.2.cells m_Mod_holdAll.2.2.2.2.slots (jM w (holdAllA D n x) D n mi hi Di ni mj sh E)) 68 0 0 62 [some (aR 53), some (aI x), some (aI f), some (aI s), some (aI z), some (aI i)] [] (up w 55 (eI 48 X)) := by
              intro k9
              induction k9 using Nat.strongRecOn with
              | _ k9 ih62 =>
                intro z X i hi9 hX hz01 hz hk62
                refine j_iload (pc' := 64) (z := i) dX12_holdAll_62 rfl rfl ?_
                refine j_aload_n (pc' := 65) (z := 53) dX12_holdAll_64 rfl rfl ?_
                refine j_get (pc' := 68) (v := aR 54) dX12_holdAll_65 rfl f_Mod_9 (by omega) ((up_n (by omega)).trans hO) rfl ?_
                refine j_iconst (pc' := 69) dX12_holdAll_68 rfl ?_
                refine j_iald (pc' := 70) dX12_holdAll_69 rfl (by omega) ((up_n (by omega)).trans hS) (by omega) (by decide) ?_
                refine j_top (b := n) hR.pn ?_
                refine j_icmp_ge (tgt := 127) (pc' := 73) dX12_holdAll_70 (by decide) rfl (by omega) (by omega) (fun h70 => ?_) (fun h70 => ?_)
                · have hin : i = n := by omega
                  have hX9 : Rw X (hldD D s n) n mi := hX.exD (by rw [hin])
                  have hz9 : z = 1 ↔ andn s (freS D n) = 0 := by rw [fre_sub (by omega) (by omega), ← hin]; exact hz
                  have hh9 := hrd_hld (D := D) (n := n) (set := s) (pace := D 6 0)
                  have hsb := sab_bd (set := s) (seat := 0) (pace := D 6 0) hB
                  have h66 : hldD D s n 6 = D 6 := hld_o (by omega)
                  refine j_iload (pc' := 129) (z := z) dX12_holdAll_127 rfl rfl ?_
                  refine j_if_eq (tgt := 144) (pc' := 132) dX12_holdAll_129 (by decide) rfl (by omega) (fun h129 => ?_) (fun h129 => ?_)
                  · refine j_iinc (pc' := 147) (z := s) (L' := [some (aR 53), some (aI x), some (aI f), some (aI (s + 1)), some (aI z), some (aI i)]) dX12_holdAll_144 rfl (by decide) rfl rfl rfl ?_
                    refine j_goto (pc' := 15) dX12_holdAll_147 (by decide) ?_
                    refine j_forget 4 (L' := [some (aR 53), some (aI x), some (aI f), some (aI (s + 1)), none, some (aI i)]) rfl ?_
                    refine j_forget 5 (L' := [some (aR 53), some (aI x), some (aI f), some (aI (s + 1)), none, none]) rfl ?_
                    exact ih15 _ (by omega) f X (s + 1) (by omega) (by exact ho_bad hB (by omega) hH (fun q9 => by first | (have := hz9.mpr q9.1; omega) | omega)) rfl
                  · refine j_aload_n (pc' := 133) (z := 53) dX12_holdAll_132 rfl rfl ?_
                    refine j_get (pc' := 136) (v := aR 55) dX12_holdAll_133 rfl f_Mod_13 (by omega) ((up_n (by omega)).trans hO) rfl ?_
                    refine j_callS (pc' := 139) (as := [aR 55]) (rest := []) dX12_holdAll_136 rfl s_Mod_77 (c_Mod_heardNow up_s (by omega) hX9.w (hB.hld (set := s) (i := n)) ) rfl rfl rfl (jdet (st' := [aI (hrd (hldD D s n) n 0 ((hldD D s n) 6 0))]) rfl ?_)
                    refine j_top (b := max 0 (sab D n s 0 (D 6 0) - D 6 3)) (by rw [h66, hh9]) ?_
                    refine j_if_ne (tgt := 144) (pc' := 142) dX12_holdAll_139 (by decide) rfl (by omega) (fun h139 => ?_) (fun h139 => ?_)
                    · refine j_iinc (pc' := 147) (z := s) (L' := [some (aR 53), some (aI x), some (aI f), some (aI (s + 1)), some (aI z), some (aI i)]) dX12_holdAll_144 rfl (by decide) rfl rfl rfl ?_
                      refine j_goto (pc' := 15) dX12_holdAll_147 (by decide) ?_
                      refine j_forget 4 (L' := [some (aR 53), some (aI x), some (aI f), some (aI (s + 1)), none, some (aI i)]) rfl ?_
                      refine j_forget 5 (L' := [some (aR 53), some (aI x), some (aI f), some (aI (s + 1)), none, none]) rfl ?_
                      exact ih15 _ (by omega) f X (s + 1) (by omega) (by exact ho_bad hB (by omega) hH (fun q9 => by first | (have := hz9.mpr q9.1; omega) | omega)) rfl
                    · refine j_iload_n (pc' := 143) (z := s) dX12_holdAll_142 rfl rfl ?_
                      refine j_istore_n (pc' := 144) (L' := [some (aR 53), some (aI x), some (aI s), some (aI s), some (aI z), some (aI i)]) dX12_holdAll_143 rfl (by decide) rfl ?_
                      refine j_iinc (pc' := 147) (z := s) (L' := [some (aR 53), some (aI x), some (aI s), some (aI (s + 1)), some (aI z), some (aI i)]) dX12_holdAll_144 rfl (by decide) rfl rfl rfl ?_
                      refine j_goto (pc' := 15) dX12_holdAll_147 (by decide) ?_
                      refine j_forget 4 (L' := [some (aR 53), some (aI x), some (aI s), some (aI (s + 1)), none, some (aI i)]) rfl ?_
                      refine j_forget 5 (L' := [some (aR 53), some (aI x), some (aI s), some (aI (s + 1)), none, none]) rfl ?_
                      exact ih15 _ (by omega) s X (s + 1) (by omega) (by exact ho_good hB (by omega) hH ⟨hz9.mp (by omega), by omega⟩ (by omega)) rfl
                · have hbt : bt s i = s / 2 ^ (Int.toNat i) % 2 ^ 1 := rfl
                  have hb01 := bt_01 (x := s) (p := i)
                  have hDi := hD i (by omega) (by omega)
                  refine j_iload_n (pc' := 74) (z := s) dX12_holdAll_73 rfl rfl ?_
                  refine j_iload (pc' := 76) (z := i) dX12_holdAll_74 rfl rfl ?_
                  refine j_ishr (pc' := 77) dX12_holdAll_76 rfl (by omega) (by omega) ?_
                  refine j_iconst (pc' := 78) dX12_holdAll_77 rfl ?_
                  refine j_imask (pc' := 79) 1 dX12_holdAll_78 rfl (by decide) rfl ?_
                  refine j_if_ne (tgt := 85) (pc' := 82) dX12_holdAll_79 (by decide) rfl (by omega) (fun h79 => ?_) (fun h79 => ?_)
                  · refine j_iload (pc' := 87) (z := z) dX12_holdAll_85 rfl rfl ?_
                    refine j_aload_n (pc' := 88) (z := 53) dX12_holdAll_87 rfl rfl ?_
                    refine j_get (pc' := 91) (v := aR 54) dX12_holdAll_88 rfl f_Mod_9 (by omega) ((up_n (by omega)).trans hO) rfl ?_
                    refine j_iload (pc' := 93) (z := i) dX12_holdAll_91 rfl rfl ?_
                    refine j_iconst (pc' := 94) dX12_holdAll_93 rfl ?_
                    refine j_callS (pc' := 97) (as := [aI i, aI 4]) (rest := [aR 54, aI z]) dX12_holdAll_94 rfl s_Mod_53 c_Mod_at rfl rfl rfl (jdet (st' := [aI (6 + 6 * i + 4), aR 54, aI z]) rfl ?_)
                    refine j_iald (pc' := 98) dX12_holdAll_97 rfl (by omega) ((up_n (by omega)).trans hS) (by omega) (by decide) ?_
                    refine j_top (b := D 4 i) (hR.pj (j := 4) (p := i) (by omega) (by omega)) ?_
                    refine j_if_ne (tgt := 105) (pc' := 101) dX12_holdAll_98 (by decide) rfl (by omega) (fun h98 => ?_) (fun h98 => ?_)
                    · refine j_iconst (pc' := 106) dX12_holdAll_105 rfl ?_
                      refine j_imask (pc' := 107) 0 dX12_holdAll_106 rfl (by decide) rfl ?_
                      refine j_top (b := 0) (by omega) ?_
                      refine j_istore (pc' := 109) (L' := [some (aR 53), some (aI x), some (aI f), some (aI s), some (aI 0), some (aI i)]) dX12_holdAll_107 rfl (by decide) rfl ?_
                      refine j_aload_n (pc' := 110) (z := 53) dX12_holdAll_109 rfl rfl ?_
                      refine j_get (pc' := 113) (v := aR 55) dX12_holdAll_110 rfl f_Mod_13 (by omega) ((up_n (by omega)).trans hO) rfl ?_
                      refine j_iload (pc' := 115) (z := i) dX12_holdAll_113 rfl rfl ?_
                      refine j_iconst (pc' := 116) dX12_holdAll_115 rfl ?_
                      refine j_callS (pc' := 119) (as := [aI i, aI 4]) (rest := [aR 55]) dX12_holdAll_116 rfl s_Mod_53 c_Mod_at rfl rfl rfl (jdet (st' := [aI (6 + 6 * i + 4), aR 55]) rfl ?_)
                      refine j_iconst (pc' := 120) dX12_holdAll_119 rfl ?_
                      refine j_iast (pc' := 121) dX12_holdAll_120 rfl (by omega) up_s (by omega) (by decide) ?_
                      refine j_w (w' := up w 55 (eI 48 (upi X (6 + 6 * i + 4) 1))) (by funext j9; simp only [up]; (repeat' split) <;> first | rfl | (exfalso; omega)) ?_
                      refine j_iinc (pc' := 124) (z := i) (L' := [some (aR 53), some (aI x), some (aI f), some (aI s), some (aI 0), some (aI (i + 1))]) dX12_holdAll_121 rfl (by decide) rfl rfl rfl ?_
                      refine j_goto (pc' := 62) dX12_holdAll_124 (by decide) ?_
                      exact ih62 _ (by omega) 0 (upi X (6 + 6 * i + 4) 1) (i + 1) (by omega) (by exact hX.sta (D' := hldD D s (i + 1)) (by omega) (hld_s (by omega) (by omega)) (fun j j4 => by rw [hld_o j4, hld_o j4])) (by omega) (by exact ⟨fun w => by omega, fun w => by have := w i (by omega) (by omega) (by omega); omega⟩) rfl
                    · refine j_iconst (pc' := 102) dX12_holdAll_101 rfl ?_
                      refine j_goto (pc' := 106) dX12_holdAll_102 (by decide) ?_
                      refine j_imask (pc' := 107) 1 dX12_holdAll_106 rfl (by decide) rfl ?_
                      refine j_top (b := z) (by omega) ?_
                      refine j_istore (pc' := 109) (L' := [some (aR 53), some (aI x), some (aI f), some (aI s), some (aI z), some (aI i)]) dX12_holdAll_107 rfl (by decide) rfl ?_
                      refine j_aload_n (pc' := 110) (z := 53) dX12_holdAll_109 rfl rfl ?_
                      refine j_get (pc' := 113) (v := aR 55) dX12_holdAll_110 rfl f_Mod_13 (by omega) ((up_n (by omega)).trans hO) rfl ?_
                      refine j_iload (pc' := 115) (z := i) dX12_holdAll_113 rfl rfl ?_
                      refine j_iconst (pc' := 116) dX12_holdAll_115 rfl ?_
                      refine j_callS (pc' := 119) (as := [aI i, aI 4]) (rest := [aR 55]) dX12_holdAll_116 rfl s_Mod_53 c_Mod_at rfl rfl rfl (jdet (st' := [aI (6 + 6 * i + 4), aR 55]) rfl ?_)
                      refine j_iconst (pc' := 120) dX12_holdAll_119 rfl ?_
                      refine j_iast (pc' := 121) dX12_holdAll_120 rfl (by omega) up_s (by omega) (by decide) ?_
                      refine j_w (w' := up w 55 (eI 48 (upi X (6 + 6 * i + 4) 1))) (by funext j9; simp only [up]; (repeat' split) <;> first | rfl | (exfalso; omega)) ?_
                      refine j_iinc (pc' := 124) (z := i) (L' := [some (aR 53), some (aI x), some (aI f), some (aI s), some (aI z), some (aI (i + 1))]) dX12_holdAll_121 rfl (by decide) rfl rfl rfl ?_
                      refine j_goto (pc' := 62) dX12_holdAll_124 (by decide) ?_
                      exact ih62 _ (by omega) z (upi X (6 + 6 * i + 4) 1) (i + 1) (by omega) (by exact hX.sta (D' := hldD D s (i + 1)) (by omega) (hld_s (by omega) (by omega)) (fun j j4 => by rw [hld_o j4, hld_o j4])) (by omega) (by rw [hz]; exact ⟨fun w q q1 q2 q3 => by by_cases qi : q = i; (subst qi; omega); (exact w q q1 (by omega) q3), fun w q q1 q2 q3 => w q q1 (by omega) q3⟩) rfl
                  · refine j_goto (pc' := 121) dX12_holdAll_82 (by decide) ?_
                    refine j_iinc (pc' := 124) (z := i) (L' := [some (aR 53), some (aI x), some (aI f), some (aI s), some (aI z), some (aI (i + 1))]) dX12_holdAll_121 rfl (by decide) rfl rfl rfl ?_
                    refine j_goto (pc' := 62) dX12_holdAll_124 (by decide) ?_
                    exact ih62 _ (by omega) z X (i + 1) (by omega) (by exact hX.exD (hld_k (by omega))) (by omega) (by rw [hz]; exact ⟨fun w q q1 q2 q3 => by by_cases qi : q = i; (subst qi; omega); (exact w q q1 (by omega) q3), fun w q q1 q2 q3 => w q q1 (by omega) q3⟩) rfl
            exact lp62 _ 1 S 0 (by omega) (by rw [hld_0]; exact hR.w) (by omega) (by exact ⟨fun _ q q1 q2 => by omega, fun _ => rfl⟩) rfl
          · have hp1 := pop_bd' (x := s) (by omega)
            have hp2 := pop_bd' (x := f) (by omega)
            refine j_iload_n (pc' := 32) (z := s) dX12_holdAll_31 rfl rfl ?_
            refine j_callS (pc' := 35) (as := [aI s]) (rest := []) dX12_holdAll_32 rfl s_Mod_153 (c_Mod_bits (by omega)) rfl rfl rfl (jdet (st' := [aI (pop s)]) rfl ?_)
            refine j_iload_n (pc' := 36) (z := f) dX12_holdAll_35 rfl rfl ?_
            refine j_callS (pc' := 39) (as := [aI f]) (rest := [aI (pop s)]) dX12_holdAll_36 rfl s_Mod_153 (c_Mod_bits (by omega)) rfl rfl rfl (jdet (st' := [aI (pop f), aI (pop s)]) rfl ?_)
            refine j_icmp_lt (tgt := 45) (pc' := 42) dX12_holdAll_39 (by decide) rfl (by omega) (by omega) (fun h39 => ?_) (fun h39 => ?_)
            · refine j_aload_n (pc' := 46) (z := 53) dX12_holdAll_45 rfl rfl ?_
              refine j_get (pc' := 49) (v := aR 54) dX12_holdAll_46 rfl f_Mod_9 (by omega) ((up_n (by omega)).trans hO) rfl ?_
              refine j_aload_n (pc' := 50) (z := 53) dX12_holdAll_49 rfl rfl ?_
              refine j_get (pc' := 53) (v := aR 55) dX12_holdAll_50 rfl f_Mod_13 (by omega) ((up_n (by omega)).trans hO) rfl ?_
              refine j_callS (pc' := 56) (as := [aR 54, aR 55]) (rest := []) dX12_holdAll_53 rfl s_Mod_134 (c_Mod_lays ((up_n (by omega)).trans hS) up_s (by omega) (by omega) (by omega)) rfl rfl rfl (jdet (st' := []) rfl ?_)
              refine j_w (w' := up w 55 (eI 48 S)) (by funext j9; simp only [up]; (repeat' split) <;> first | rfl | (exfalso; omega)) ?_
              refine j_iconst (pc' := 57) dX12_holdAll_56 rfl ?_
              refine j_istore (pc' := 59) (L' := [some (aR 53), some (aI x), some (aI f), some (aI s), some (aI 1), none]) dX12_holdAll_57 rfl (by decide) rfl ?_
              refine j_iconst (pc' := 60) dX12_holdAll_59 rfl ?_
              refine j_istore (pc' := 62) (L' := [some (aR 53), some (aI x), some (aI f), some (aI s), some (aI 1), some (aI 0)]) dX12_holdAll_60 rfl (by decide) rfl ?_
              have lp62 : ∀ (k9 : Nat) (z : Int) (X : Int → Int) (i : Int), (0 ≤ i ∧ i ≤ n) → (Rw X (hldD D s i) n mi) → (0 ≤ z ∧ z ≤ 1) → (z = 1 ↔ ∀ q, 0 ≤ q → q < i → bt s q = 1 → D 4 q = 0) → ((n - i).toNat) = k9 → J l m_Mod_holdAll ad G [] false (jZ ad G false 68 m_Mod_holdAll.2.2.2.2.cells m_Mod_holdAll.2.2.2.2.slots (jM w (holdAllA D n x) D n mi hi Di ni mj sh E)) 68 0 0 62 [some (aR 53), some (aI x), some (aI f), some (aI s), some (aI z), some (aI i)] [] (up w 55 (eI 48 X)) := by
                intro k9
                induction k9 using Nat.strongRecOn with
                | _ k9 ih62 =>
                  intro z X i hi9 hX hz01 hz hk62
                  refine j_iload (pc' := 64) (z := i) dX12_holdAll_62 rfl rfl ?_
                  refine j_aload_n (pc' := 65) (z := 53) dX12_holdAll_64 rfl rfl ?_
                  refine j_get (pc' := 68) (v := aR 54) dX12_holdAll_65 rfl f_Mod_9 (by omega) ((up_n (by omega)).trans hO) rfl ?_
                  refine j_iconst (pc' := 69) dX12_holdAll_68 rfl ?_
                  refine j_iald (pc' := 70) dX12_holdAll_69 rfl (by omega) ((up_n (by omega)).trans hS) (by omega) (by decide) ?_
                  refine j_top (b := n) hR.pn ?_
                  refine j_icmp_ge (tgt := 127) (pc' := 73) dX12_holdAll_70 (by decide) rfl (by omega) (by omega) (fun h70 => ?_) (fun h70 => ?_)
                  · have hin : i = n := by omega
                    have hX9 : Rw X (hldD D s n) n mi := hX.exD (by rw [hin])
                    have hz9 : z = 1 ↔ andn s (freS D n) = 0 := by rw [fre_sub (by omega) (by omega), ← hin]; exact hz
                    have hh9 := hrd_hld (D := D) (n := n) (set := s) (pace := D 6 0)
                    have hsb := sab_bd (set := s) (seat := 0) (pace := D 6 0) hB
                    have h66 : hldD D s n 6 = D 6 := hld_o (by omega)
                    refine j_iload (pc' := 129) (z := z) dX12_holdAll_127 rfl rfl ?_
                    refine j_if_eq (tgt := 144) (pc' := 132) dX12_holdAll_129 (by decide) rfl (by omega) (fun h129 => ?_) (fun h129 => ?_)
                    · refine j_iinc (pc' := 147) (z := s) (L' := [some (aR 53), some (aI x), some (aI f), some (aI (s + 1)), some (aI z), some (aI i)]) dX12_holdAll_144 rfl (by decide) rfl rfl rfl ?_
                      refine j_goto (pc' := 15) dX12_holdAll_147 (by decide) ?_
                      refine j_forget 4 (L' := [some (aR 53), some (aI x), some (aI f), some (aI (s + 1)), none, some (aI i)]) rfl ?_
                      refine j_forget 5 (L' := [some (aR 53), some (aI x), some (aI f), some (aI (s + 1)), none, none]) rfl ?_
                      exact ih15 _ (by omega) f X (s + 1) (by omega) (by exact ho_bad hB (by omega) hH (fun q9 => by first | (have := hz9.mpr q9.1; omega) | omega)) rfl
                    · refine j_aload_n (pc' := 133) (z := 53) dX12_holdAll_132 rfl rfl ?_
                      refine j_get (pc' := 136) (v := aR 55) dX12_holdAll_133 rfl f_Mod_13 (by omega) ((up_n (by omega)).trans hO) rfl ?_
                      refine j_callS (pc' := 139) (as := [aR 55]) (rest := []) dX12_holdAll_136 rfl s_Mod_77 (c_Mod_heardNow up_s (by omega) hX9.w (hB.hld (set := s) (i := n)) ) rfl rfl rfl (jdet (st' := [aI (hrd (hldD D s n) n 0 ((hldD D s n) 6 0))]) rfl ?_)
                      refine j_top (b := max 0 (sab D n s 0 (D 6 0) - D 6 3)) (by rw [h66, hh9]) ?_
                      refine j_if_ne (tgt := 144) (pc' := 142) dX12_holdAll_139 (by decide) rfl (by omega) (fun h139 => ?_) (fun h139 => ?_)
                      · refine j_iinc (pc' := 147) (z := s) (L' := [some (aR 53), some (aI x), some (aI f), some (aI (s + 1)), some (aI z), some (aI i)]) dX12_holdAll_144 rfl (by decide) rfl rfl rfl ?_
                        refine j_goto (pc' := 15) dX12_holdAll_147 (by decide) ?_
                        refine j_forget 4 (L' := [some (aR 53), some (aI x), some (aI f), some (aI (s + 1)), none, some (aI i)]) rfl ?_
                        refine j_forget 5 (L' := [some (aR 53), some (aI x), some (aI f), some (aI (s + 1)), none, none]) rfl ?_
                        exact ih15 _ (by omega) f X (s + 1) (by omega) (by exact ho_bad hB (by omega) hH (fun q9 => by first | (have := hz9.mpr q9.1; omega) | omega)) rfl
                      · refine j_iload_n (pc' := 143) (z := s) dX12_holdAll_142 rfl rfl ?_
                        refine j_istore_n (pc' := 144) (L' := [some (aR 53), some (aI x), some (aI s), some (aI s), some (aI z), some (aI i)]) dX12_holdAll_143 rfl (by decide) rfl ?_
                        refine j_iinc (pc' := 147) (z := s) (L' := [some (aR 53), some (aI x), some (aI s), some (aI (s + 1)), some (aI z), some (aI i)]) dX12_holdAll_144 rfl (by decide) rfl rfl rfl ?_
                        refine j_goto (pc' := 15) dX12_holdAll_147 (by decide) ?_
                        refine j_forget 4 (L' := [some (aR 53), some (aI x), some (aI s), some (aI (s + 1)), none, some (aI i)]) rfl ?_
                        refine j_forget 5 (L' := [some (aR 53), some (aI x), some (aI s), some (aI (s + 1)), none, none]) rfl ?_
                        exact ih15 _ (by omega) s X (s + 1) (by omega) (by exact ho_good hB (by omega) hH ⟨hz9.mp (by omega), by omega⟩ (by omega)) rfl
                  · have hbt : bt s i = s / 2 ^ (Int.toNat i) % 2 ^ 1 := rfl
                    have hb01 := bt_01 (x := s) (p := i)
                    have hDi := hD i (by omega) (by omega)
                    refine j_iload_n (pc' := 74) (z := s) dX12_holdAll_73 rfl rfl ?_
                    refine j_iload (pc' := 76) (z := i) dX12_holdAll_74 rfl rfl ?_
                    refine j_ishr (pc' := 77) dX12_holdAll_76 rfl (by omega) (by omega) ?_
                    refine j_iconst (pc' := 78) dX12_holdAll_77 rfl ?_
                    refine j_imask (pc' := 79) 1 dX12_holdAll_78 rfl (by decide) rfl ?_
                    refine j_if_ne (tgt := 85) (pc' := 82) dX12_holdAll_79 (by decide) rfl (by omega) (fun h79 => ?_) (fun h79 => ?_)
                    · refine j_iload (pc' := 87) (z := z) dX12_holdAll_85 rfl rfl ?_
                      refine j_aload_n (pc' := 88) (z := 53) dX12_holdAll_87 rfl rfl ?_
                      refine j_get (pc' := 91) (v := aR 54) dX12_holdAll_88 rfl f_Mod_9 (by omega) ((up_n (by omega)).trans hO) rfl ?_
                      refine j_iload (pc' := 93) (z := i) dX12_holdAll_91 rfl rfl ?_
                      refine j_iconst (pc' := 94) dX12_holdAll_93 rfl ?_
                      refine j_callS (pc' := 97) (as := [aI i, aI 4]) (rest := [aR 54, aI z]) dX12_holdAll_94 rfl s_Mod_53 c_Mod_at rfl rfl rfl (jdet (st' := [aI (6 + 6 * i + 4), aR 54, aI z]) rfl ?_)
                      refine j_iald (pc' := 98) dX12_holdAll_97 rfl (by omega) ((up_n (by omega)).trans hS) (by omega) (by decide) ?_
                      refine j_top (b := D 4 i) (hR.pj (j := 4) (p := i) (by omega) (by omega)) ?_
                      refine j_if_ne (tgt := 105) (pc' := 101) dX12_holdAll_98 (by decide) rfl (by omega) (fun h98 => ?_) (fun h98 => ?_)
                      · refine j_iconst (pc' := 106) dX12_holdAll_105 rfl ?_
                        refine j_imask (pc' := 107) 0 dX12_holdAll_106 rfl (by decide) rfl ?_
                        refine j_top (b := 0) (by omega) ?_
                        refine j_istore (pc' := 109) (L' := [some (aR 53), some (aI x), some (aI f), some (aI s), some (aI 0), some (aI i)]) dX12_holdAll_107 rfl (by decide) rfl ?_
                        refine j_aload_n (pc' := 110) (z := 53) dX12_holdAll_109 rfl rfl ?_
                        refine j_get (pc' := 113) (v := aR 55) dX12_holdAll_110 rfl f_Mod_13 (by omega) ((up_n (by omega)).trans hO) rfl ?_
                        refine j_iload (pc' := 115) (z := i) dX12_holdAll_113 rfl rfl ?_
                        refine j_iconst (pc' := 116) dX12_holdAll_115 rfl ?_
                        refine j_callS (pc' := 119) (as := [aI i, aI 4]) (rest := [aR 55]) dX12_holdAll_116 rfl s_Mod_53 c_Mod_at rfl rfl rfl (jdet (st' := [aI (6 + 6 * i + 4), aR 55]) rfl ?_)
                        refine j_iconst (pc' := 120) dX12_holdAll_119 rfl ?_
                        refine j_iast (pc' := 121) dX12_holdAll_120 rfl (by omega) up_s (by omega) (by decide) ?_
                        refine j_w (w' := up w 55 (eI 48 (upi X (6 + 6 * i + 4) 1))) (by funext j9; simp only [up]; (repeat' split) <;> first | rfl | (exfalso; omega)) ?_
                        refine j_iinc (pc' := 124) (z := i) (L' := [some (aR 53), some (aI x), some (aI f), some (aI s), some (aI 0), some (aI (i + 1))]) dX12_holdAll_121 rfl (by decide) rfl rfl rfl ?_
                        refine j_goto (pc' := 62) dX12_holdAll_124 (by decide) ?_
                        exact ih62 _ (by omega) 0 (upi X (6 + 6 * i + 4) 1) (i + 1) (by omega) (by exact hX.sta (D' := hldD D s (i + 1)) (by omega) (hld_s (by omega) (by omega)) (fun j j4 => by rw [hld_o j4, hld_o j4])) (by omega) (by exact ⟨fun w => by omega, fun w => by have := w i (by omega) (by omega) (by omega); omega⟩) rfl
                      · refine j_iconst (pc' := 102) dX12_holdAll_101 rfl ?_
                        refine j_goto (pc' := 106) dX12_holdAll_102 (by decide) ?_
                        refine j_imask (pc' := 107) 1 dX12_holdAll_106 rfl (by decide) rfl ?_
                        refine j_top (b := z) (by omega) ?_
                        refine j_istore (pc' := 109) (L' := [some (aR 53), some (aI x), some (aI f), some (aI s), some (aI z), some (aI i)]) dX12_holdAll_107 rfl (by decide) rfl ?_
                        refine j_aload_n (pc' := 110) (z := 53) dX12_holdAll_109 rfl rfl ?_
                        refine j_get (pc' := 113) (v := aR 55) dX12_holdAll_110 rfl f_Mod_13 (by omega) ((up_n (by omega)).trans hO) rfl ?_
                        refine j_iload (pc' := 115) (z := i) dX12_holdAll_113 rfl rfl ?_
                        refine j_iconst (pc' := 116) dX12_holdAll_115 rfl ?_
                        refine j_callS (pc' := 119) (as := [aI i, aI 4]) (rest := [aR 55]) dX12_holdAll_116 rfl s_Mod_53 c_Mod_at rfl rfl rfl (jdet (st' := [aI (6 + 6 * i + 4), aR 55]) rfl ?_)
                        refine j_iconst (pc' := 120) dX12_holdAll_119 rfl ?_
                        refine j_iast (pc' := 121) dX12_holdAll_120 rfl (by omega) up_s (by omega) (by decide) ?_
                        refine j_w (w' := up w 55 (eI 48 (upi X (6 + 6 * i + 4) 1))) (by funext j9; simp only [up]; (repeat' split) <;> first | rfl | (exfalso; omega)) ?_
                        refine j_iinc (pc' := 124) (z := i) (L' := [some (aR 53), some (aI x), some (aI f), some (aI s), some (aI z), some (aI (i + 1))]) dX12_holdAll_121 rfl (by decide) rfl rfl rfl ?_
                        refine j_goto (pc' := 62) dX12_holdAll_124 (by decide) ?_
                        exact ih62 _ (by omega) z (upi X (6 + 6 * i + 4) 1) (i + 1) (by omega) (by exact hX.sta (D' := hldD D s (i + 1)) (by omega) (hld_s (by omega) (by omega)) (fun j j4 => by rw [hld_o j4, hld_o j4])) (by omega) (by rw [hz]; exact ⟨fun w q q1 q2 q3 => by by_cases qi : q = i; (subst qi; omega); (exact w q q1 (by omega) q3), fun w q q1 q2 q3 => w q q1 (by omega) q3⟩) rfl
                    · refine j_goto (pc' := 121) dX12_holdAll_82 (by decide) ?_
                      refine j_iinc (pc' := 124) (z := i) (L' := [some (aR 53), some (aI x), some (aI f), some (aI s), some (aI z), some (aI (i + 1))]) dX12_holdAll_121 rfl (by decide) rfl rfl rfl ?_
                      refine j_goto (pc' := 62) dX12_holdAll_124 (by decide) ?_
                      exact ih62 _ (by omega) z X (i + 1) (by omega) (by exact hX.exD (hld_k (by omega))) (by omega) (by rw [hz]; exact ⟨fun w q q1 q2 q3 => by by_cases qi : q = i; (subst qi; omega); (exact w q q1 (by omega) q3), fun w q q1 q2 q3 => w q q1 (by omega) q3⟩) rfl
              exact lp62 _ 1 S 0 (by omega) (by rw [hld_0]; exact hR.w) (by omega) (by exact ⟨fun _ q q1 q2 => by omega, fun _ => rfl⟩) rfl
            · refine j_goto (pc' := 144) dX12_holdAll_42 (by decide) ?_
              refine j_iinc (pc' := 147) (z := s) (L' := [some (aR 53), some (aI x), some (aI f), some (aI (s + 1)), none, none]) dX12_holdAll_144 rfl (by decide) rfl rfl rfl ?_
              refine j_goto (pc' := 15) dX12_holdAll_147 (by decide) ?_
              exact ih15 _ (by omega) f X (s + 1) (by omega) (by exact ho_skip (by omega) hH (by omega) (by omega)) rfl
    refine j_w (w' := up w 55 (eI 48 Sm)) (by funext j9; simp only [up]; (repeat' split) <;> first | rfl | (subst_vars; assumption) | (subst_vars; symm; assumption) | (exfalso; omega)) ?_
    exact lp15 _ (-1) Sm 0 (by have hpw := pow7 (n := n) (by omega); omega) (by exact ho_0 (by omega)) rfl
  · refine j_iconst (pc' := 10) dX12_holdAll_9 rfl ?_
    exact j_iret dX12_holdAll_10 rfl (jM_of (by unfold holdAllA; rw [if_neg (by omega)]) hT)
set_option maxRecDepth 100000 in
set_option maxHeartbeats 4000000 in
theorem c_Mod_wanted {l : Launch} {w : AW} {D Di : Int → Int → Int} {n mi hi ni mj : Int} {sh E : Int → Int → Int} {x : Int} (hM : Mod w D n mi hi Di ni mj sh E) (hB : CarOK D n mi) (hI : CarOK Di ni mj) (hhi : hi = 0 ∨ hi = 1) (hsh : ShOK sh E) (hwd : WdOK D) (hx : inI x) : Call l m_Mod_wanted false 68 68 [aR 53, aI x] w (jM w (wantedA D n x) D n mi hi Di ni mj sh E) := by
  have hT := MS.rf hM
  have hM0 := hM
  obtain ⟨⟨pc, ra, re, fm, se, th, hO⟩, ⟨S, hS, hR⟩, ⟨Sm, hSm⟩, ⟨Si, hSi, hRi⟩, ⟨Sw, hSw⟩, ⟨nu, hnu⟩, ⟨ha, hha⟩, ⟨fg, hfg⟩, ke, kk, kf, so, si, el, ⟨hke, hkk, hkf, hso, hsi, hel⟩, hRel⟩ := hM
  obtain ⟨hn, hD, hs0, hs1, hs2, hs3⟩ := id hB
  refine Call.of (L := [some (aR 53), some (aI x), none, none, none]) rfl (Nat.le_of_ble_eq_true rfl) rfl (fun G ad => ?_)
  refine j_iload_n (pc' := 1) (z := x) dX12_wanted_0 rfl rfl ?_
  refine j_iconst (pc' := 2) dX12_wanted_1 rfl ?_
  refine j_iconst (pc' := 3) dX12_wanted_2 rfl ?_
  refine j_callS (pc' := 6) (as := [aI x, aI 0, aI 1]) (rest := []) dX12_wanted_3 rfl s_Mod_49 (c_Mod_isIn (by omega) (by omega) (by omega)) rfl rfl rfl (jdet (st' := [aB (0 ≤ x ∧ x ≤ 1)]) rfl ?_)
  refine j_ifb_ne (tgt := 11) (pc' := 9) dX12_wanted_6 (by decide) rfl (fun h6 => ?_) (fun h6 => ?_)
  · refine j_aload_n (pc' := 12) (z := 53) dX12_wanted_11 rfl rfl ?_
    refine j_get (pc' := 15) (v := aR 54) dX12_wanted_12 rfl f_Mod_9 (by omega) hO rfl ?_
    refine j_aload_n (pc' := 16) (z := 53) dX12_wanted_15 rfl rfl ?_
    refine j_get (pc' := 19) (v := aR 55) dX12_wanted_16 rfl f_Mod_13 (by omega) hO rfl ?_
    refine j_callS (pc' := 22) (as := [aR 54, aR 55]) (rest := []) dX12_wanted_19 rfl s_Mod_134 (c_Mod_lays hS hSm (by omega) (by omega) (by omega)) rfl rfl rfl (jdet (st' := []) rfl ?_)
    rcases (show x = 0 ∨ x = 1 by omega) with hs9 | hs9
    · refine j_bipush (pc' := 24) dX12_wanted_22 rfl (by decide) ?_
      refine j_istore_n (pc' := 25) (L' := [some (aR 53), some (aI x), some (aI (-4)), none, none]) dX12_wanted_24 rfl (by decide) rfl ?_
      refine j_iconst (pc' := 26) dX12_wanted_25 rfl ?_
      refine j_istore_n (pc' := 27) (L' := [some (aR 53), some (aI x), some (aI (-4)), some (aI 0), none]) dX12_wanted_26 rfl (by decide) rfl ?_
      have lp27 : ∀ (k9 : Nat) (f : Int) (X : Int → Int) (Dx : Int → Int → Int) (k : Int), (0 ≤ k ∧ k ≤ 6) → (Rw X Dx n mi) → (CarOK Dx n mi) → (∀ v, upD Dx 6 2 v = upD D 6 2 v) → (f = wtR 0 (fstI (wtP D n 0) (6 - k) k.toNat)) → (-4 ≤ f ∧ f ≤ 10) → ((6 - k).toNat) = k9 → J l m_Mod_wanted ad G [] false (jZ ad G false 68 m_Mod_wanted.2.2.2.2.cells m_Mod_wanted.2.2.2.2.slots (jM w (wantedA D n x) D n mi hi Di ni mj sh E)) 68 0 0 27 [some (aR 53), some (aI x), some (aI f), some (aI k), none] [] (up w 55 (eI 48 X)) := by
        intro k9
        induction k9 using Nat.strongRecOn with
        | _ k9 ih27 =>
          intro f X Dx k hk9 hX hXB hXU hf hfb hk27
          refine j_iload_n (pc' := 28) (z := k) dX12_wanted_27 rfl rfl ?_
          refine j_iload_n (pc' := 29) (z := x) dX12_wanted_28 rfl rfl ?_
          refine j_if_ne (tgt := 37) (pc' := 32) dX12_wanted_29 (by decide) rfl (by omega) (fun h29 => ?_) (fun h29 => ?_)
          · exact absurd h29 (by omega)
          · refine j_bipush (pc' := 34) dX12_wanted_32 rfl (by decide) ?_
            refine j_goto (pc' := 39) dX12_wanted_34 (by decide) ?_
            refine j_icmp_ge (tgt := 94) (pc' := 42) dX12_wanted_39 (by decide) rfl (by omega) (by omega) (fun h39 => ?_) (fun h39 => ?_)
            · refine j_iload_n (pc' := 95) (z := f) dX12_wanted_94 rfl rfl ?_
              exact j_iret dX12_wanted_95 rfl (jM_of (by unfold wantedA wtF; rw [if_pos (by omega), hs9, hf, show k = 6 by omega]; unfold wtR; rfl) hT.m)
            · refine j_iload_n (pc' := 43) (z := x) dX12_wanted_42 rfl rfl ?_
              refine j_if_ne (tgt := 52) (pc' := 46) dX12_wanted_43 (by decide) rfl (by omega) (fun h43 => ?_) (fun h43 => ?_)
              · exact absurd h43 (by omega)
              · refine j_iconst (pc' := 47) dX12_wanted_46 rfl ?_
                refine j_iload_n (pc' := 48) (z := k) dX12_wanted_47 rfl rfl ?_
                refine j_isub (pc' := 49) dX12_wanted_48 rfl ?_
                refine j_goto (pc' := 53) dX12_wanted_49 (by decide) ?_
                refine j_istore (pc' := 55) (L' := [some (aR 53), some (aI x), some (aI f), some (aI k), some (aI (5 - k))]) dX12_wanted_53 rfl (by decide) rfl ?_
                refine j_aload_n (pc' := 56) (z := 53) dX12_wanted_55 rfl rfl ?_
                refine j_get (pc' := 59) (v := aR 55) dX12_wanted_56 rfl f_Mod_13 (by omega) ((up_n (by omega)).trans hO) rfl ?_
                refine j_iload_n (pc' := 60) (z := x) dX12_wanted_59 rfl rfl ?_
                refine j_if_ne (tgt := 67) (pc' := 63) dX12_wanted_60 (by decide) rfl (by omega) (fun h60 => ?_) (fun h60 => ?_)
                · exact absurd h60 (by omega)
                · refine j_iconst (pc' := 64) dX12_wanted_63 rfl ?_
                  refine j_goto (pc' := 68) dX12_wanted_64 (by decide) ?_
                  refine j_iload (pc' := 70) (z := (5 - k)) dX12_wanted_68 rfl rfl ?_
                  refine j_iast (pc' := 71) dX12_wanted_70 rfl (by omega) up_s (by omega) (by decide) ?_
                  refine j_w (w' := up w 55 (eI 48 (upi X 4 (5 - k)))) (by funext j9; simp only [up]; (repeat' split) <;> first | rfl | (exfalso; omega)) ?_
                  refine j_aload_n (pc' := 72) (z := 53) dX12_wanted_71 rfl rfl ?_
                  refine j_get (pc' := 75) (v := aR 55) dX12_wanted_72 rfl f_Mod_13 (by omega) ((up_n (by omega)).trans hO) rfl ?_
                  refine j_callS (pc' := 78) (as := [aR 55]) (rest := []) dX12_wanted_75 rfl s_Mod_77 (c_Mod_heardNow up_s (by omega) (((hX.set (k := 2) (x := 5 - k) (by omega)).ex rfl).exD (hXU _)).w (hB.ch (k := 2) (v := 5 - k) (by omega) (by have := mos1; have := mos2; omega)) ) rfl rfl rfl (jdet (st' := [aI (hrd (upD D 6 2 (5 - k)) n 0 ((upD D 6 2 (5 - k)) 6 0))]) rfl ?_)
                  have hhb := hrd_bd (seat := 0) (pace := (upD D 6 2 (5 - k)) 6 0) (hB.ch (k := 2) (v := 5 - k) (by omega) (by have := mos1; have := mos2; omega))
                  refine j_if_ne (tgt := 86) (pc' := 81) dX12_wanted_78 (by decide) rfl (by omega) (fun h78 => ?_) (fun h78 => ?_)
                  · refine j_iload_n (pc' := 87) (z := f) dX12_wanted_86 rfl rfl ?_
                    refine j_istore_n (pc' := 88) (L' := [some (aR 53), some (aI x), some (aI f), some (aI k), some (aI (5 - k))]) dX12_wanted_87 rfl (by decide) rfl ?_
                    refine j_iinc (pc' := 91) (z := k) (L' := [some (aR 53), some (aI x), some (aI f), some (aI (k + 1)), some (aI (5 - k))]) dX12_wanted_88 rfl (by decide) rfl rfl rfl ?_
                    refine j_goto (pc' := 27) dX12_wanted_91 (by decide) ?_
                    refine j_forget 4 (L' := [some (aR 53), some (aI x), some (aI f), some (aI (k + 1)), none]) rfl ?_
                    exact ih27 _ (by omega) f (upi X 4 (5 - k)) (upD D 6 2 (5 - k)) (k + 1) (by omega) (by exact (((hX.set (k := 2) (x := 5 - k) (by omega)).ex rfl).exD (hXU _))) (by exact (hB.ch (k := 2) (v := 5 - k) (by omega) (by have := mos1; have := mos2; omega))) (by exact fun v9 => upD_upD) (by rw [wt_st (by omega)]; first | (rw [if_pos (wtP0.mpr (by first | exact h78 | (rw [show (9 : Int) - (10 - 1 - k) = k by omega]; exact h78)))]; unfold wtR; rw [if_neg (by omega), wtV0]; try omega) | (rw [if_neg (fun q9 => h78 (by have := wtP0.mp q9; first | exact this | (rw [show 9 - (10 - 1 - k) = k by omega] at this; exact this)))]; exact hf)) (by omega) rfl
                  · refine j_iload (pc' := 83) (z := (5 - k)) dX12_wanted_81 rfl rfl ?_
                    refine j_goto (pc' := 87) dX12_wanted_83 (by decide) ?_
                    refine j_istore_n (pc' := 88) (L' := [some (aR 53), some (aI x), some (aI (5 - k)), some (aI k), some (aI (5 - k))]) dX12_wanted_87 rfl (by decide) rfl ?_
                    refine j_iinc (pc' := 91) (z := k) (L' := [some (aR 53), some (aI x), some (aI (5 - k)), some (aI (k + 1)), some (aI (5 - k))]) dX12_wanted_88 rfl (by decide) rfl rfl rfl ?_
                    refine j_goto (pc' := 27) dX12_wanted_91 (by decide) ?_
                    refine j_forget 4 (L' := [some (aR 53), some (aI x), some (aI (5 - k)), some (aI (k + 1)), none]) rfl ?_
                    exact ih27 _ (by omega) (5 - k) (upi X 4 (5 - k)) (upD D 6 2 (5 - k)) (k + 1) (by omega) (by exact (((hX.set (k := 2) (x := 5 - k) (by omega)).ex rfl).exD (hXU _))) (by exact (hB.ch (k := 2) (v := 5 - k) (by omega) (by have := mos1; have := mos2; omega))) (by exact fun v9 => upD_upD) (by rw [wt_st (by omega)]; first | (rw [if_pos (wtP0.mpr (by first | exact h78 | (rw [show (9 : Int) - (10 - 1 - k) = k by omega]; exact h78)))]; unfold wtR; rw [if_neg (by omega), wtV0]; try omega) | (rw [if_neg (fun q9 => h78 (by have := wtP0.mp q9; first | exact this | (rw [show 9 - (10 - 1 - k) = k by omega] at this; exact this)))]; exact hf)) (by omega) rfl
      exact lp27 _ (-4) S D 0 (by omega) (by exact hR.w) (by exact hB) (by exact fun _ => rfl) (by rfl) (by omega) rfl
    · refine j_bipush (pc' := 24) dX12_wanted_22 rfl (by decide) ?_
      refine j_istore_n (pc' := 25) (L' := [some (aR 53), some (aI x), some (aI (-4)), none, none]) dX12_wanted_24 rfl (by decide) rfl ?_
      refine j_iconst (pc' := 26) dX12_wanted_25 rfl ?_
      refine j_istore_n (pc' := 27) (L' := [some (aR 53), some (aI x), some (aI (-4)), some (aI 0), none]) dX12_wanted_26 rfl (by decide) rfl ?_
      have lp27 : ∀ (k9 : Nat) (f : Int) (X : Int → Int) (Dx : Int → Int → Int) (k : Int), (0 ≤ k ∧ k ≤ 10) → (Rw X Dx n mi) → (CarOK Dx n mi) → (∀ v, upD Dx 6 1 v = upD D 6 1 v) → (f = wtR 1 (fstI (wtP D n 1) (10 - k) k.toNat)) → (-4 ≤ f ∧ f ≤ 10) → ((10 - k).toNat) = k9 → J l m_Mod_wanted ad G [] false (jZ ad G false 68 m_Mod_wanted.2.2.2.2.cells m_Mod_wanted.2.2.2.2.slots (jM w (wantedA D n x) D n mi hi Di ni mj sh E)) 68 0 0 27 [some (aR 53), some (aI x), some (aI f), some (aI k), none] [] (up w 55 (eI 48 X)) := by
        intro k9
        induction k9 using Nat.strongRecOn with
        | _ k9 ih27 =>
          intro f X Dx k hk9 hX hXB hXU hf hfb hk27
          refine j_iload_n (pc' := 28) (z := k) dX12_wanted_27 rfl rfl ?_
          refine j_iload_n (pc' := 29) (z := x) dX12_wanted_28 rfl rfl ?_
          refine j_if_ne (tgt := 37) (pc' := 32) dX12_wanted_29 (by decide) rfl (by omega) (fun h29 => ?_) (fun h29 => ?_)
          · refine j_bipush (pc' := 39) dX12_wanted_37 rfl (by decide) ?_
            refine j_icmp_ge (tgt := 94) (pc' := 42) dX12_wanted_39 (by decide) rfl (by omega) (by omega) (fun h39 => ?_) (fun h39 => ?_)
            · refine j_iload_n (pc' := 95) (z := f) dX12_wanted_94 rfl rfl ?_
              exact j_iret dX12_wanted_95 rfl (jM_of (by unfold wantedA wtF; rw [if_pos (by omega), hs9, hf, show k = 10 by omega]; unfold wtR; rfl) hT.m)
            · refine j_iload_n (pc' := 43) (z := x) dX12_wanted_42 rfl rfl ?_
              refine j_if_ne (tgt := 52) (pc' := 46) dX12_wanted_43 (by decide) rfl (by omega) (fun h43 => ?_) (fun h43 => ?_)
              · refine j_iload_n (pc' := 53) (z := k) dX12_wanted_52 rfl rfl ?_
                refine j_istore (pc' := 55) (L' := [some (aR 53), some (aI x), some (aI f), some (aI k), some (aI k)]) dX12_wanted_53 rfl (by decide) rfl ?_
                refine j_aload_n (pc' := 56) (z := 53) dX12_wanted_55 rfl rfl ?_
                refine j_get (pc' := 59) (v := aR 55) dX12_wanted_56 rfl f_Mod_13 (by omega) ((up_n (by omega)).trans hO) rfl ?_
                refine j_iload_n (pc' := 60) (z := x) dX12_wanted_59 rfl rfl ?_
                refine j_if_ne (tgt := 67) (pc' := 63) dX12_wanted_60 (by decide) rfl (by omega) (fun h60 => ?_) (fun h60 => ?_)
                · refine j_iconst (pc' := 68) dX12_wanted_67 rfl ?_
                  refine j_iload (pc' := 70) (z := k) dX12_wanted_68 rfl rfl ?_
                  refine j_iast (pc' := 71) dX12_wanted_70 rfl (by omega) up_s (by omega) (by decide) ?_
                  refine j_w (w' := up w 55 (eI 48 (upi X 3 k))) (by funext j9; simp only [up]; (repeat' split) <;> first | rfl | (exfalso; omega)) ?_
                  refine j_aload_n (pc' := 72) (z := 53) dX12_wanted_71 rfl rfl ?_
                  refine j_get (pc' := 75) (v := aR 55) dX12_wanted_72 rfl f_Mod_13 (by omega) ((up_n (by omega)).trans hO) rfl ?_
                  refine j_callS (pc' := 78) (as := [aR 55]) (rest := []) dX12_wanted_75 rfl s_Mod_77 (c_Mod_heardNow up_s (by omega) (((hX.set (k := 1) (x := k) (by omega)).ex rfl).exD (hXU _)).w (hB.ch (k := 1) (v := k) (by omega) (by have := mos1; have := mos2; omega)) ) rfl rfl rfl (jdet (st' := [aI (hrd (upD D 6 1 k) n 0 ((upD D 6 1 k) 6 0))]) rfl ?_)
                  have hhb := hrd_bd (seat := 0) (pace := (upD D 6 1 k) 6 0) (hB.ch (k := 1) (v := k) (by omega) (by have := mos1; have := mos2; omega))
                  refine j_if_ne (tgt := 86) (pc' := 81) dX12_wanted_78 (by decide) rfl (by omega) (fun h78 => ?_) (fun h78 => ?_)
                  · refine j_iload_n (pc' := 87) (z := f) dX12_wanted_86 rfl rfl ?_
                    refine j_istore_n (pc' := 88) (L' := [some (aR 53), some (aI x), some (aI f), some (aI k), some (aI k)]) dX12_wanted_87 rfl (by decide) rfl ?_
                    refine j_iinc (pc' := 91) (z := k) (L' := [some (aR 53), some (aI x), some (aI f), some (aI (k + 1)), some (aI k)]) dX12_wanted_88 rfl (by decide) rfl rfl rfl ?_
                    refine j_goto (pc' := 27) dX12_wanted_91 (by decide) ?_
                    refine j_forget 4 (L' := [some (aR 53), some (aI x), some (aI f), some (aI (k + 1)), none]) rfl ?_
                    exact ih27 _ (by omega) f (upi X 3 k) (upD D 6 1 k) (k + 1) (by omega) (by exact (((hX.set (k := 1) (x := k) (by omega)).ex rfl).exD (hXU _))) (by exact (hB.ch (k := 1) (v := k) (by omega) (by have := mos1; have := mos2; omega))) (by exact fun v9 => upD_upD) (by rw [wt_st (by omega)]; first | (rw [if_pos (wtP1.mpr (by first | exact h78 | (rw [show (9 : Int) - (10 - 1 - k) = k by omega]; exact h78)))]; unfold wtR; rw [if_neg (by omega), wtV1]; try omega) | (rw [if_neg (fun q9 => h78 (by have := wtP1.mp q9; first | exact this | (rw [show 9 - (10 - 1 - k) = k by omega] at this; exact this)))]; exact hf)) (by omega) rfl
                  · refine j_iload (pc' := 83) (z := k) dX12_wanted_81 rfl rfl ?_
                    refine j_goto (pc' := 87) dX12_wanted_83 (by decide) ?_
                    refine j_istore_n (pc' := 88) (L' := [some (aR 53), some (aI x), some (aI k), some (aI k), some (aI k)]) dX12_wanted_87 rfl (by decide) rfl ?_
                    refine j_iinc (pc' := 91) (z := k) (L' := [some (aR 53), some (aI x), some (aI k), some (aI (k + 1)), some (aI k)]) dX12_wanted_88 rfl (by decide) rfl rfl rfl ?_
                    refine j_goto (pc' := 27) dX12_wanted_91 (by decide) ?_
                    refine j_forget 4 (L' := [some (aR 53), some (aI x), some (aI k), some (aI (k + 1)), none]) rfl ?_
                    exact ih27 _ (by omega) k (upi X 3 k) (upD D 6 1 k) (k + 1) (by omega) (by exact (((hX.set (k := 1) (x := k) (by omega)).ex rfl).exD (hXU _))) (by exact (hB.ch (k := 1) (v := k) (by omega) (by have := mos1; have := mos2; omega))) (by exact fun v9 => upD_upD) (by rw [wt_st (by omega)]; first | (rw [if_pos (wtP1.mpr (by first | exact h78 | (rw [show (9 : Int) - (10 - 1 - k) = k by omega]; exact h78)))]; unfold wtR; rw [if_neg (by omega), wtV1]; try omega) | (rw [if_neg (fun q9 => h78 (by have := wtP1.mp q9; first | exact this | (rw [show 9 - (10 - 1 - k) = k by omega] at this; exact this)))]; exact hf)) (by omega) rfl
                · exact absurd h60 (by omega)
              · exact absurd h43 (by omega)
          · exact absurd h29 (by omega)
      exact lp27 _ (-4) S D 0 (by omega) (by exact hR.w) (by exact hB) (by exact fun _ => rfl) (by rfl) (by omega) rfl
  · refine j_iconst (pc' := 10) dX12_wanted_9 rfl ?_
    exact j_iret dX12_wanted_10 rfl (jM_of (by unfold wantedA; rw [if_neg (by omega)]) hT)
