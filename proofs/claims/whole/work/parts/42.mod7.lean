theorem dv_zero {F : Int → Int} {a m : Int} (ha : 0 ≤ a ∧ a ≤ m) (h : ∀ j, a ≤ j → j < m → F j = 0) : dv F m = dv F a := by
  have key : ∀ i : Nat, a + i ≤ m → dv F (a + i) = dv F a := by
    intro i
    induction i with
    | zero => intro _; rw [show a + ((0 : Nat) : Int) = a by omega]
    | succ i ih =>
      intro hi
      rw [show a + ((i + 1 : Nat) : Int) = (a + i) + 1 by omega, dv_s (by omega), ih (by omega), h (a + i) (by omega) (by omega), Int.zero_mul, Int.add_zero]
  have := key (m - a).toNat (by omega)
  rwa [show a + ((m - a).toNat : Int) = m by omega] at this
/-- how many digits tell something -/
def fmo (F : Int → Int) (m fm : Int) : Prop := (0 ≤ fm ∧ fm ≤ m) ∧ (∀ j, fm ≤ j → j < m → F j = 0) ∧ (0 < fm → ¬ F (fm - 1) = 0)
theorem wi_1 {F : Int → Int} {fm k : Int} (hg : dg F 78) (hf : fmo F 78 fm) (h : fm ≤ k) : dv F 78 ≤ 10 ^ k.toNat := by
  have h1 := dv_zero (F := F) (a := fm) (m := 78) hf.1 hf.2.1
  have h2 := dv_bd (F := F) (m := fm) hf.1.1 (fun j g1 g2 => hg j g1 (by have := hf.1; omega))
  have h3 := p10_le (i := fm) (j := k) hf.1.1 h
  omega
theorem wi_2 {F : Int → Int} {fm k : Int} (hg : dg F 78) (hf : fmo F 78 fm) (hk : 0 ≤ k) (h : k + 1 < fm) : ¬ dv F 78 ≤ 10 ^ k.toNat :=
  wt_no2 (i := fm - 1) hg (by omega) (by have := hf.1; omega) (hf.2.2 (by omega))
theorem wi_3 {F : Int → Int} {fm k : Int} (hg : dg F 78) (hf : fmo F 78 fm) (hk : 0 ≤ k) (h : fm = k + 1) (h1 : ¬ F k = 1) : ¬ dv F 78 ≤ 10 ^ k.toNat := by
  have hb := hf.1
  have h2 := hf.2.2 (by omega)
  rw [show fm - 1 = k by omega] at h2
  have h3 := hg k hk (by omega)
  have h4 := dv_ge (F := F) (k := k) (m := 78) (by omega) hg
  have h5 := (dv_bd (F := F) (m := k) hk (fun j g1 g2 => hg j g1 (by omega))).1
  have h6 := p10 k.toNat
  have h7 : 2 * 10 ^ k.toNat ≤ F k * 10 ^ k.toNat := Int.mul_le_mul_of_nonneg_right (by omega) (by omega)
  omega
theorem wi_4 {F : Int → Int} {fm k i : Int} (hg : dg F 78) (hf : fmo F 78 fm) (hk : 0 ≤ k) (h : fm = k + 1) (h1 : F k = 1) (hi : 0 ≤ i ∧ i < k) (h2 : ¬ F i = 0) : ¬ dv F 78 ≤ 10 ^ k.toNat := by
  have hb := hf.1
  have h4 := dv_ge (F := F) (k := k) (m := 78) (by omega) hg
  have hg2 : dg F k := fun j g1 g2 => hg j g1 (by omega)
  have h5 := dv_ge (F := F) (k := i) (m := k) hi hg2
  have h6 := (dv_bd (F := F) (m := i) hi.1 (fun j g1 g2 => hg j g1 (by omega))).1
  have h7 := hg i hi.1 (by omega)
  have h8 := p10 i.toNat
  have h9 : 1 * 10 ^ i.toNat ≤ F i * 10 ^ i.toNat := Int.mul_le_mul_of_nonneg_right (by omega) (by omega)
  rw [h1] at h4
  omega
theorem wi_5 {F : Int → Int} {fm k : Int} (hf : fmo F 78 fm) (hk : 0 ≤ k) (h : fm = k + 1) (h1 : F k = 1) (h2 : ∀ i, 0 ≤ i → i < k → F i = 0) : dv F 78 ≤ 10 ^ k.toNat := by
  have h3 := dv_zero (F := F) (a := fm) (m := 78) hf.1 hf.2.1
  have h4 := dv_zero (F := F) (a := 0) (m := k) (by omega) h2
  rw [h3, h, dv_s hk, h4, h1, dv_0]
  omega
theorem one_dv {F : Int → Int} (h : ∀ j, 0 ≤ j → j < 78 → F j = if j = 0 then 1 else 0) : dg F 78 ∧ dv F 78 = 1 := by
  refine ⟨fun j h1 h2 => by rw [h j h1 h2]; split <;> omega, ?_⟩
  rw [dv_zero (F := F) (a := 1) (m := 78) (by omega) (fun j h1 h2 => by rw [h j (by omega) h2, if_neg (by omega)])]
  have := dv_s (F := F) (m := 0) (by omega)
  rw [show (0 : Int) + 1 = 1 by omega] at this
  rw [this, h 0 (by omega) (by omega), dv_0]
  simp
theorem lkS4 {F : Int → Int} {sz r s : Int} (hr : 0 ≤ r ∧ r ≤ 9) (hz : 0 ≤ sz ∧ sz ≤ 8) (hs : 0 ≤ s ∧ s ≤ 3) : lk F sz r s ≤ lkS F sz r 4 := by
  have e : lkS F sz r 4 = 0 + lk F sz r 0 + lk F sz r 1 + lk F sz r 2 + lk F sz r 3 := rfl
  have h0 := lk_bd (F := F) (seat := 0) hr hz
  have h1 := lk_bd (F := F) (seat := 1) hr hz
  have h2 := lk_bd (F := F) (seat := 2) hr hz
  have h3 := lk_bd (F := F) (seat := 3) hr hz
  rcases (show s = 0 ∨ s = 1 ∨ s = 2 ∨ s = 3 by omega) with rfl | rfl | rfl | rfl <;> omega
def erR (sh E : Int → Int → Int) (d r : Int) : Int := if 0 ≤ r ∧ r ≤ 9 then tsR sh E d else -1
set_option maxRecDepth 100000 in
set_option maxHeartbeats 4000000 in
theorem c_Mod_timesFigures {l : Launch} {w : AW} {F0 : Int → Int} {v : Int} {hi pc ra re se th : Int} (hO : w 53 = mOb hi pc ra re 0 se th) (hF : w 60 = eI 80 F0) (hv : 1 ≤ v ∧ v ≤ 49) (hg0 : dg F0 78) (hsm : v * dv F0 78 < 10 ^ (78 : Int).toNat) : Call l m_Mod_timesFigures false 68 68 [aR 53, aI v] w (fun r w9 => r = none ∧ ∃ F g, w9 = up (up w 60 (eI 80 F)) 53 (mOb hi pc ra re g se th) ∧ dg F 78 ∧ dv F 78 = v * dv F0 78 ∧ fmo F 78 g) := by
  refine Call.of (L := [some (aR 53), some (aI v), none, none, none]) rfl (Nat.le_of_ble_eq_true rfl) rfl (fun G ad => ?_)
  refine j_iconst (pc' := 1) dX12_timesFigures_0 rfl ?_
  refine j_istore_n (pc' := 2) (L' := [some (aR 53), some (aI v), some (aI 0), none, none]) dX12_timesFigures_1 rfl (by decide) rfl ?_
  refine j_iconst (pc' := 3) dX12_timesFigures_2 rfl ?_
  refine j_istore_n (pc' := 4) (L' := [some (aR 53), some (aI v), some (aI 0), some (aI 0), none]) dX12_timesFigures_3 rfl (by decide) rfl ?_
  have lp4 : ∀ (k9 : Nat) (c : Int) (F : Int → Int) (g : Int) (i : Int), (0 ≤ i ∧ i ≤ 78) → (0 ≤ c ∧ c ≤ 49) → (dg F 78) → (∀ j, i ≤ j → F j = F0 j) → (dv F i + c * 10 ^ i.toNat = v * dv F0 i) → (fmo F i g) → ((78 - i).toNat) = k9 → J l m_Mod_timesFigures ad G [] false (jZ ad G false 68 m_Mod_timesFigures.2.2.2.2.cells m_Mod_timesFigures.2.2.2.2.slots (fun r w9 => r = none ∧ ∃ F g, w9 = up (up w 60 (eI 80 F)) 53 (mOb hi pc ra re g se th) ∧ dg F 78 ∧ dv F 78 = v * dv F0 78 ∧ fmo F 78 g)) 68 0 0 4 [some (aR 53), some (aI v), some (aI c), some (aI i), none] [] (up (up w 60 (eI 80 F)) 53 (eO 11 [aR 54, aR 55, aR 56, aR 57, aI hi, aI pc, aI ra, aI re, aR 58, aR 59, aR 60, aI g, aI se, aR 61, aR 62, aR 63, aR 64, aR 65, aR 66, aI th])) := by
    intro k9
    induction k9 using Nat.strongRecOn with
    | _ k9 ih4 =>
      intro c F g i hi9 hc hg hun hd hfm hk4
      refine j_iload_n (pc' := 5) (z := i) dX12_timesFigures_4 rfl rfl ?_
      refine j_bipush (pc' := 7) dX12_timesFigures_5 rfl (by decide) ?_
      refine j_icmp_ge (tgt := 61) (pc' := 10) dX12_timesFigures_7 (by decide) rfl (by omega) (by omega) (fun h7 => ?_) (fun h7 => ?_)
      · exact j_vret dX12_timesFigures_61 rfl (by have e9 : i = 78 := (by omega); subst e9; have h9 := dtop (by omega) (dv_bd (by omega) hg).1 hc.1 hd hsm; exact ⟨rfl, F, g, rfl, hg, h9.2, hfm⟩)
      · have hFi := hun i (by omega)
        have hFb := hg0 i (by omega) (by omega)
        have hmu : 0 ≤ F0 i * v ∧ F0 i * v ≤ 9 * 49 := ⟨Int.mul_nonneg (by omega) (by omega), Int.mul_le_mul (by omega) (by omega) (by omega) (by omega)⟩
        refine j_aload_n (pc' := 11) (z := 53) dX12_timesFigures_10 rfl rfl ?_
        refine j_get (pc' := 14) (v := aR 60) dX12_timesFigures_11 rfl f_Mod_28 (by omega) up_s rfl ?_
        refine j_iload_n (pc' := 15) (z := i) dX12_timesFigures_14 rfl rfl ?_
        refine j_iald (pc' := 16) dX12_timesFigures_15 rfl (by omega) ((up_n (by omega)).trans up_s) (by omega) (by decide) ?_
        refine j_top (b := F0 i) hFi ?_
        refine j_iload_n (pc' := 17) (z := v) dX12_timesFigures_16 rfl rfl ?_
        refine j_imul (pc' := 18) dX12_timesFigures_17 rfl ?_
        refine j_iload_n (pc' := 19) (z := c) dX12_timesFigures_18 rfl rfl ?_
        refine j_iadd (pc' := 20) dX12_timesFigures_19 rfl ?_
        refine j_istore (pc' := 22) (L' := [some (aR 53), some (aI v), some (aI c), some (aI i), some (aI (F0 i * v + c))]) dX12_timesFigures_20 rfl (by decide) rfl ?_
        refine j_aload_n (pc' := 23) (z := 53) dX12_timesFigures_22 rfl rfl ?_
        refine j_get (pc' := 26) (v := aR 60) dX12_timesFigures_23 rfl f_Mod_28 (by omega) up_s rfl ?_
        refine j_iload_n (pc' := 27) (z := i) dX12_timesFigures_26 rfl rfl ?_
        refine j_iload (pc' := 29) (z := (F0 i * v + c)) dX12_timesFigures_27 rfl rfl ?_
        refine j_bipush (pc' := 31) dX12_timesFigures_29 rfl (by decide) ?_
        refine j_irem (pc' := 32) dX12_timesFigures_31 rfl (by omega) (by omega) ?_
        refine j_iast (pc' := 33) dX12_timesFigures_32 rfl (by omega) ((up_n (by omega)).trans up_s) (by omega) (by decide) ?_
        refine j_w (w' := up (up w 60 (eI 80 (upi F i ((F0 i * v + c) % 10)))) 53 (eO 11 [aR 54, aR 55, aR 56, aR 57, aI hi, aI pc, aI ra, aI re, aR 58, aR 59, aR 60, aI g, aI se, aR 61, aR 62, aR 63, aR 64, aR 65, aR 66, aI th])) (by funext j9; simp only [up]; (repeat' split) <;> first | rfl | (exfalso; omega)) ?_
        refine j_iload (pc' := 35) (z := (F0 i * v + c)) dX12_timesFigures_33 rfl rfl ?_
        refine j_bipush (pc' := 37) dX12_timesFigures_35 rfl (by decide) ?_
        refine j_idiv (pc' := 38) dX12_timesFigures_37 rfl (by omega) (by omega) ?_
        refine j_istore_n (pc' := 39) (L' := [some (aR 53), some (aI v), some (aI ((F0 i * v + c) / 10)), some (aI i), some (aI (F0 i * v + c))]) dX12_timesFigures_38 rfl (by decide) rfl ?_
        refine j_aload_n (pc' := 40) (z := 53) dX12_timesFigures_39 rfl rfl ?_
        refine j_get (pc' := 43) (v := aR 60) dX12_timesFigures_40 rfl f_Mod_28 (by omega) up_s rfl ?_
        refine j_iload_n (pc' := 44) (z := i) dX12_timesFigures_43 rfl rfl ?_
        refine j_iald (pc' := 45) dX12_timesFigures_44 rfl (by omega) ((up_n (by omega)).trans up_s) (by omega) (by decide) ?_
        have hst : upi F i ((F0 i * v + c) % 10) i = (F0 i * v + c) % 10 := upi_s
        refine j_if_eq (tgt := 55) (pc' := 48) dX12_timesFigures_45 (by decide) rfl (by omega) (fun h45 => ?_) (fun h45 => ?_)
        · refine j_iinc (pc' := 58) (z := i) (L' := [some (aR 53), some (aI v), some (aI ((F0 i * v + c) / 10)), some (aI (i + 1)), some (aI (F0 i * v + c))]) dX12_timesFigures_55 rfl (by decide) rfl rfl rfl ?_
          refine j_goto (pc' := 4) dX12_timesFigures_58 (by decide) ?_
          refine j_forget 4 (L' := [some (aR 53), some (aI v), some (aI ((F0 i * v + c) / 10)), some (aI (i + 1)), none]) rfl ?_
          exact ih4 _ (by omega) ((F0 i * v + c) / 10) (upi F i ((F0 i * v + c) % 10)) g (i + 1) (by omega) (by omega) (by exact dg_up hg (by omega)) (by intro j h1; rw [upi_n (by omega)]; exact hun j (by omega)) (by exact dmu_step hi9.1 hd) (by refine ⟨by have := hfm.1; omega, fun j h1 h2 => ?_, fun q => ?_⟩; (by_cases ji : j = i; (subst ji; exact h45); (rw [upi_n ji]; exact hfm.2.1 j h1 (by omega))); (rw [upi_n (by have := hfm.1; omega)]; exact hfm.2.2 q)) rfl
        · refine j_aload_n (pc' := 49) (z := 53) dX12_timesFigures_48 rfl rfl ?_
          refine j_iload_n (pc' := 50) (z := i) dX12_timesFigures_49 rfl rfl ?_
          refine j_iconst (pc' := 51) dX12_timesFigures_50 rfl ?_
          refine j_iadd (pc' := 52) dX12_timesFigures_51 rfl ?_
          refine j_putI (pc' := 55) dX12_timesFigures_52 rfl p_Mod_188 (by omega) up_s (Nat.le_of_ble_eq_true rfl) ?_
          refine j_w (w' := up (up w 60 (eI 80 (upi F i ((F0 i * v + c) % 10)))) 53 (eO 11 [aR 54, aR 55, aR 56, aR 57, aI hi, aI pc, aI ra, aI re, aR 58, aR 59, aR 60, aI (i + 1), aI se, aR 61, aR 62, aR 63, aR 64, aR 65, aR 66, aI th])) (by funext j9; simp only [up]; (repeat' split) <;> first | rfl | (exfalso; omega)) ?_
          refine j_iinc (pc' := 58) (z := i) (L' := [some (aR 53), some (aI v), some (aI ((F0 i * v + c) / 10)), some (aI (i + 1)), some (aI (F0 i * v + c))]) dX12_timesFigures_55 rfl (by decide) rfl rfl rfl ?_
          refine j_goto (pc' := 4) dX12_timesFigures_58 (by decide) ?_
          refine j_forget 4 (L' := [some (aR 53), some (aI v), some (aI ((F0 i * v + c) / 10)), some (aI (i + 1)), none]) rfl ?_
          exact ih4 _ (by omega) ((F0 i * v + c) / 10) (upi F i ((F0 i * v + c) % 10)) (i + 1) (i + 1) (by omega) (by omega) (by exact dg_up hg (by omega)) (by intro j h1; rw [upi_n (by omega)]; exact hun j (by omega)) (by exact dmu_step hi9.1 hd) (by refine ⟨by omega, fun j h1 h2 => by omega, fun _ => ?_⟩; rw [show i + 1 - 1 = i by omega]; exact h45) rfl
  refine j_w (w' := up (up w 60 (eI 80 F0)) 53 (eO 11 [aR 54, aR 55, aR 56, aR 57, aI hi, aI pc, aI ra, aI re, aR 58, aR 59, aR 60, aI 0, aI se, aR 61, aR 62, aR 63, aR 64, aR 65, aR 66, aI th])) (by funext j9; simp only [up]; (repeat' split) <;> first | rfl | (subst_vars; assumption) | (subst_vars; symm; assumption) | (exfalso; omega)) ?_
  exact lp4 _ 0 F0 0 0 (by omega) (by omega) (by exact hg0) (by exact fun _ _ => rfl) (by simp [dv_0]) (by exact ⟨by omega, fun j h1 h2 => by omega, fun q => by omega⟩) rfl
set_option maxRecDepth 100000 in
set_option maxHeartbeats 4000000 in
theorem c_Mod_isWithinTen {l : Launch} {w : AW} {F0 : Int → Int} {k fm : Int} {hi pc ra re se th : Int} (hO : w 53 = mOb hi pc ra re fm se th) (hF : w 60 = eI 80 F0) (hk : 0 ≤ k ∧ k ≤ 60) (hg : dg F0 78) (hfm : fmo F0 78 fm) : Call l m_Mod_isWithinTen false 68 68 [aR 53, aI k] w (rt (some (aB (dv F0 78 ≤ 10 ^ k.toNat))) w) := by
  have hfb := hfm.1
  have hFk := hg k (by omega) (by omega)
  refine Call.of (L := [some (aR 53), some (aI k), none]) rfl (Nat.le_of_ble_eq_true rfl) rfl (fun G ad => ?_)
  refine j_aload_n (pc' := 1) (z := 53) dX12_isWithinTen_0 rfl rfl ?_
  refine j_get (pc' := 4) (v := aI fm) dX12_isWithinTen_1 rfl f_Mod_188 (by omega) hO rfl ?_
  refine j_iload_n (pc' := 5) (z := k) dX12_isWithinTen_4 rfl rfl ?_
  refine j_icmp_gt (tgt := 10) (pc' := 8) dX12_isWithinTen_5 (by decide) rfl (by omega) (by omega) (fun h5 => ?_) (fun h5 => ?_)
  · refine j_aload_n (pc' := 11) (z := 53) dX12_isWithinTen_10 rfl rfl ?_
    refine j_get (pc' := 14) (v := aI fm) dX12_isWithinTen_11 rfl f_Mod_188 (by omega) hO rfl ?_
    refine j_iload_n (pc' := 15) (z := k) dX12_isWithinTen_14 rfl rfl ?_
    refine j_iconst (pc' := 16) dX12_isWithinTen_15 rfl ?_
    refine j_iadd (pc' := 17) dX12_isWithinTen_16 rfl ?_
    refine j_icmp_gt (tgt := 30) (pc' := 20) dX12_isWithinTen_17 (by decide) rfl (by omega) (by omega) (fun h17 => ?_) (fun h17 => ?_)
    · refine j_iconst (pc' := 31) dX12_isWithinTen_30 rfl ?_
      exact j_zret0 dX12_isWithinTen_31 rfl (rt_b0 (by by_cases q9 : k + 1 < fm; (exact wi_2 hg hfm (by omega) q9); (exact wi_3 hg hfm (by omega) (by omega) (by omega))))
    · refine j_aload_n (pc' := 21) (z := 53) dX12_isWithinTen_20 rfl rfl ?_
      refine j_get (pc' := 24) (v := aR 60) dX12_isWithinTen_21 rfl f_Mod_28 (by omega) hO rfl ?_
      refine j_iload_n (pc' := 25) (z := k) dX12_isWithinTen_24 rfl rfl ?_
      refine j_iald (pc' := 26) dX12_isWithinTen_25 rfl (by omega) hF (by omega) (by decide) ?_
      refine j_iconst (pc' := 27) dX12_isWithinTen_26 rfl ?_
      refine j_icmp_eq (tgt := 32) (pc' := 30) dX12_isWithinTen_27 (by decide) rfl (by omega) (by omega) (fun h27 => ?_) (fun h27 => ?_)
      · refine j_iconst (pc' := 33) dX12_isWithinTen_32 rfl ?_
        refine j_istore_n (pc' := 34) (L' := [some (aR 53), some (aI k), some (aI 0)]) dX12_isWithinTen_33 rfl (by decide) rfl ?_
        have lp34 : ∀ (k9 : Nat) (i : Int), (0 ≤ i ∧ i ≤ k) → (∀ j, 0 ≤ j → j < i → F0 j = 0) → ((k - i).toNat) = k9 → J l m_Mod_isWithinTen ad G [] false (jZ ad G false 68 m_Mod_isWithinTen.2.2.2.2.cells m_Mod_isWithinTen.2.2.2.2.slots (rt (some (aB (dv F0 78 ≤ 10 ^ k.toNat))) w)) 68 0 0 34 [some (aR 53), some (aI k), some (aI i)] [] w := by
          intro k9
          induction k9 using Nat.strongRecOn with
          | _ k9 ih34 =>
            intro i hi9 hz hk34
            refine j_iload_n (pc' := 35) (z := i) dX12_isWithinTen_34 rfl rfl ?_
            refine j_iload_n (pc' := 36) (z := k) dX12_isWithinTen_35 rfl rfl ?_
            refine j_icmp_ge (tgt := 56) (pc' := 39) dX12_isWithinTen_36 (by decide) rfl (by omega) (by omega) (fun h36 => ?_) (fun h36 => ?_)
            · refine j_iconst (pc' := 57) dX12_isWithinTen_56 rfl ?_
              exact j_zret1 dX12_isWithinTen_57 rfl (rt_b1 (by exact wi_5 hfm (by omega) (by omega) h27 (fun j h1 h2 => hz j h1 (by omega))))
            · have hFi := hg i (by omega) (by omega)
              refine j_aload_n (pc' := 40) (z := 53) dX12_isWithinTen_39 rfl rfl ?_
              refine j_get (pc' := 43) (v := aR 60) dX12_isWithinTen_40 rfl f_Mod_28 (by omega) hO rfl ?_
              refine j_iload_n (pc' := 44) (z := i) dX12_isWithinTen_43 rfl rfl ?_
              refine j_iald (pc' := 45) dX12_isWithinTen_44 rfl (by omega) hF (by omega) (by decide) ?_
              refine j_if_eq (tgt := 50) (pc' := 48) dX12_isWithinTen_45 (by decide) rfl (by omega) (fun h45 => ?_) (fun h45 => ?_)
              · refine j_iinc (pc' := 53) (z := i) (L' := [some (aR 53), some (aI k), some (aI (i + 1))]) dX12_isWithinTen_50 rfl (by decide) rfl rfl rfl ?_
                refine j_goto (pc' := 34) dX12_isWithinTen_53 (by decide) ?_
                exact ih34 _ (by omega) (i + 1) (by omega) (by intro j h1 h2; by_cases ji : j = i; (subst ji; exact h45); (exact hz j h1 (by omega))) rfl
              · refine j_iconst (pc' := 49) dX12_isWithinTen_48 rfl ?_
                exact j_zret0 dX12_isWithinTen_49 rfl (rt_b0 (by exact wi_4 (i := i) hg hfm (by omega) (by omega) h27 (by omega) h45))
        exact lp34 _ 0 (by omega) (by intro j h1 h2; omega) rfl
      · refine j_iconst (pc' := 31) dX12_isWithinTen_30 rfl ?_
        exact j_zret0 dX12_isWithinTen_31 rfl (rt_b0 (by by_cases q9 : k + 1 < fm; (exact wi_2 hg hfm (by omega) q9); (exact wi_3 hg hfm (by omega) (by omega) (by omega))))
  · refine j_iconst (pc' := 9) dX12_isWithinTen_8 rfl ?_
    exact j_zret1 dX12_isWithinTen_9 rfl (rt_b1 (by exact wi_1 hg hfm (by omega)))
set_option maxRecDepth 100000 in
set_option maxHeartbeats 4000000 in
theorem c_Mod_gone {l : Launch} {w : AW} {D Di : Int → Int → Int} {n mi hi ni mj : Int} {sh E : Int → Int → Int} {s t : Int} (hM : Mod w D n mi hi Di ni mj sh E) (hB : CarOK D n mi) (hI : CarOK Di ni mj) (hhi : hi = 0 ∨ hi = 1) (hsh : ShOK sh E) (hwd : WdOK D) (hs : inI s) (ht : inI t) : Call l m_Mod_gone false 68 68 [aR 53, aI s, aI t] w (jM w (goneA s t) D n mi hi Di ni mj sh E) := by
  have hT := MS.rf hM
  have hM0 := hM
  obtain ⟨⟨pc, ra, re, fm, se, th, hO⟩, ⟨S, hS, hR⟩, ⟨Sm, hSm⟩, ⟨Si, hSi, hRi⟩, ⟨Sw, hSw⟩, ⟨nu, hnu⟩, ⟨ha, hha⟩, ⟨fg, hfg⟩, ke, kk, kf, so, si, el, ⟨hke, hkk, hkf, hso, hsi, hel⟩, hRel⟩ := hM
  obtain ⟨hn, hD, hs0, hs1, hs2, hs3⟩ := id hB
  refine Call.of (L := [some (aR 53), some (aI s), some (aI t), none]) rfl (Nat.le_of_ble_eq_true rfl) rfl (fun G ad => ?_)
  refine j_iload_n (pc' := 1) (z := s) dX12_gone_0 rfl rfl ?_
  refine j_iconst (pc' := 2) dX12_gone_1 rfl ?_
  refine j_bipush (pc' := 4) dX12_gone_2 rfl (by decide) ?_
  refine j_callS (pc' := 7) (as := [aI s, aI 1, aI 9]) (rest := []) dX12_gone_4 rfl s_Mod_49 (c_Mod_isIn (by omega) (by omega) (by omega)) rfl rfl rfl (jdet (st' := [aB (1 ≤ s ∧ s ≤ 9)]) rfl ?_)
  refine j_ifb_eq (tgt := 20) (pc' := 10) dX12_gone_7 (by decide) rfl (fun h7 => ?_) (fun h7 => ?_)
  · refine j_iconst (pc' := 21) dX12_gone_20 rfl ?_
    exact j_iret dX12_gone_21 rfl (jM_of (by unfold goneA; rw [if_neg (by omega)]) hT)
  · refine j_iload_n (pc' := 11) (z := t) dX12_gone_10 rfl rfl ?_
    refine j_iconst (pc' := 12) dX12_gone_11 rfl ?_
    refine j_bipush (pc' := 14) dX12_gone_12 rfl (by decide) ?_
    refine j_callS (pc' := 17) (as := [aI t, aI 2, aI 50]) (rest := []) dX12_gone_14 rfl s_Mod_49 (c_Mod_isIn (by omega) (by omega) (by omega)) rfl rfl rfl (jdet (st' := [aB (2 ≤ t ∧ t ≤ 50)]) rfl ?_)
    refine j_ifb_ne (tgt := 22) (pc' := 20) dX12_gone_17 (by decide) rfl (fun h17 => ?_) (fun h17 => ?_)
    · refine j_iconst (pc' := 23) dX12_gone_22 rfl ?_
      refine j_istore_n (pc' := 24) (L' := [some (aR 53), some (aI s), some (aI t), some (aI 0)]) dX12_gone_23 rfl (by decide) rfl ?_
      have lp24 : ∀ (k9 : Nat) (X : Int → Int) (i : Int), (0 ≤ i ∧ i ≤ 80) → (∀ j, 0 ≤ j → j < i → X j = if j = 0 then 1 else 0) → ((80 - i).toNat) = k9 → J l m_Mod_gone ad G [] false (jZ ad G false 68 m_Mod_gone.2.2.2.2.cells m_Mod_gone.2.2.2.2.slots (jM w (goneA s t) D n mi hi Di ni mj sh E)) 68 0 0 24 [some (aR 53), some (aI s), some (aI t), some (aI i)] [] (up w 60 (eI 80 X)) := by
        intro k9
        induction k9 using Nat.strongRecOn with
        | _ k9 ih24 =>
          intro X i hi9 hX hk24
          refine j_iload_n (pc' := 25) (z := i) dX12_gone_24 rfl rfl ?_
          refine j_bipush (pc' := 27) dX12_gone_25 rfl (by decide) ?_
          refine j_icmp_ge (tgt := 51) (pc' := 30) dX12_gone_27 (by decide) rfl (by omega) (by omega) (fun h27 => ?_) (fun h27 => ?_)
          · refine j_aload_n (pc' := 52) (z := 53) dX12_gone_51 rfl rfl ?_
            refine j_iconst (pc' := 53) dX12_gone_52 rfl ?_
            refine j_putI (pc' := 56) dX12_gone_53 rfl p_Mod_188 (by omega) ((up_n (by omega)).trans hO) (Nat.le_of_ble_eq_true rfl) ?_
            refine j_w (w' := up (up w 60 (eI 80 X)) 53 (eO 11 [aR 54, aR 55, aR 56, aR 57, aI hi, aI pc, aI ra, aI re, aR 58, aR 59, aR 60, aI 0, aI se, aR 61, aR 62, aR 63, aR 64, aR 65, aR 66, aI th])) rfl ?_
            refine j_aload_n (pc' := 57) (z := 53) dX12_gone_56 rfl rfl ?_
            refine j_iload_n (pc' := 58) (z := t) dX12_gone_57 rfl rfl ?_
            refine j_iconst (pc' := 59) dX12_gone_58 rfl ?_
            refine j_isub (pc' := 60) dX12_gone_59 rfl ?_
            have hone := one_dv (F := X) (fun j j1 j2 => hX j j1 (by omega))
            have hdg9 := hone.1
            have hsm9 : (t - 1) * dv X 78 < 10 ^ (78 : Int).toNat := by
              rw [hone.2, Int.mul_one]
              have h8 : (49 : Int) < 10 ^ (78 : Int).toNat := by decide
              omega
            refine j_callV (pc' := 63) (as := [aI (t - 1)]) (rest := []) dX12_gone_60 rfl s_Mod_191 (c_Mod_timesFigures up_s ((up_n (by omega)).trans up_s) (v := t - 1) (by omega) hdg9 hsm9) (by omega) up_s rfl rfl rfl rfl (fun r9 w9 h9 => ?_)
            obtain ⟨rfl, G1, g1, rfl, hdg1, hdv1, hfm1⟩ := h9
            refine j_st (st' := []) rfl ?_
            refine j_w (w' := up (up w 60 (eI 80 G1)) 53 (eO 11 [aR 54, aR 55, aR 56, aR 57, aI hi, aI pc, aI ra, aI re, aR 58, aR 59, aR 60, aI g1, aI se, aR 61, aR 62, aR 63, aR 64, aR 65, aR 66, aI th])) (by funext j9; simp only [up]; (repeat' split) <;> first | rfl | (exfalso; omega)) ?_
            refine j_iconst (pc' := 64) dX12_gone_63 rfl ?_
            refine j_istore_n (pc' := 65) (L' := [some (aR 53), some (aI s), some (aI t), some (aI 0)]) dX12_gone_64 rfl (by decide) rfl ?_
            have lp65 : ∀ (k9 : Nat) (H : Int → Int) (g : Int) (i : Int), (0 ≤ i ∧ i ≤ 61) → (dg H 78) → (dv H 78 = (t - 1) * (10 - s) ^ i.toNat) → (fmo H 78 g) → (goneA s t = fstI (gonP s t) i (61 - i).toNat) → ((61 - i).toNat) = k9 → J l m_Mod_gone ad G [] false (jZ ad G false 68 m_Mod_gone.2.2.2.2.cells m_Mod_gone.2.2.2.2.slots (jM w (goneA s t) D n mi hi Di ni mj sh E)) 68 0 0 65 [some (aR 53), some (aI s), some (aI t), some (aI i)] [] (up (up w 60 (eI 80 H)) 53 (eO 11 [aR 54, aR 55, aR 56, aR 57, aI hi, aI pc, aI ra, aI re, aR 58, aR 59, aR 60, aI g, aI se, aR 61, aR 62, aR 63, aR 64, aR 65, aR 66, aI th])) := by
              intro k9
              induction k9 using Nat.strongRecOn with
              | _ k9 ih65 =>
                intro H g i hi9 hg hd hfm hv hk65
                refine j_iload_n (pc' := 66) (z := i) dX12_gone_65 rfl rfl ?_
                refine j_bipush (pc' := 68) dX12_gone_66 rfl (by decide) ?_
                refine j_icmp_gt (tgt := 100) (pc' := 71) dX12_gone_68 (by decide) rfl (by omega) (by omega) (fun h68 => ?_) (fun h68 => ?_)
                · refine j_bipush (pc' := 102) dX12_gone_100 rfl (by decide) ?_
                  exact j_iret dX12_gone_102 rfl (jM_of (by rw [hv, fstI_z (by omega)]) hT.fi.ob)
                · refine j_aload_n (pc' := 72) (z := 53) dX12_gone_71 rfl rfl ?_
                  refine j_iload_n (pc' := 73) (z := i) dX12_gone_72 rfl rfl ?_
                  refine j_callV (pc' := 76) (as := [aI i]) (rest := []) dX12_gone_73 rfl s_Mod_195 (c_Mod_isWithinTen up_s ((up_n (by omega)).trans up_s) (k := i) (by omega) hg hfm) (by omega) up_s rfl rfl rfl rfl (jdet (st' := [aB (dv H 78 ≤ 10 ^ i.toNat)]) rfl ?_)
                  refine j_ifb_eq (tgt := 81) (pc' := 79) dX12_gone_76 (by decide) rfl (fun h76 => ?_) (fun h76 => ?_)
                  · refine j_aload_n (pc' := 82) (z := 53) dX12_gone_81 rfl rfl ?_
                    refine j_iconst (pc' := 83) dX12_gone_82 rfl ?_
                    refine j_putI (pc' := 86) dX12_gone_83 rfl p_Mod_188 (by omega) up_s (Nat.le_of_ble_eq_true rfl) ?_
                    refine j_w (w' := up (up w 60 (eI 80 H)) 53 (eO 11 [aR 54, aR 55, aR 56, aR 57, aI hi, aI pc, aI ra, aI re, aR 58, aR 59, aR 60, aI 0, aI se, aR 61, aR 62, aR 63, aR 64, aR 65, aR 66, aI th])) (by funext j9; simp only [up]; (repeat' split) <;> first | rfl | (exfalso; omega)) ?_
                    refine j_aload_n (pc' := 87) (z := 53) dX12_gone_86 rfl rfl ?_
                    refine j_bipush (pc' := 89) dX12_gone_87 rfl (by decide) ?_
                    refine j_iload_n (pc' := 90) (z := s) dX12_gone_89 rfl rfl ?_
                    refine j_isub (pc' := 91) dX12_gone_90 rfl ?_
                    have hdg9 := hg
                    have hsm9 : (10 - s) * dv H 78 < 10 ^ (78 : Int).toNat := by
                      rw [hd, gon_s hi9.1]
                      have h8 := gon_bd (a := t - 1) (b := 10 - s) (k := (i + 1).toNat) (by omega) (by omega) (by omega)
                      have h7 : (10 : Int) ^ 62 < 10 ^ (78 : Int).toNat := by decide
                      omega
                    refine j_callV (pc' := 94) (as := [aI (10 - s)]) (rest := []) dX12_gone_91 rfl s_Mod_191 (c_Mod_timesFigures up_s ((up_n (by omega)).trans up_s) (v := 10 - s) (by omega) hdg9 hsm9) (by omega) up_s rfl rfl rfl rfl (fun r9 w9 h9 => ?_)
                    obtain ⟨rfl, G2, g2, rfl, hdg2, hdv2, hfm2⟩ := h9
                    refine j_st (st' := []) rfl ?_
                    refine j_w (w' := up (up w 60 (eI 80 G2)) 53 (eO 11 [aR 54, aR 55, aR 56, aR 57, aI hi, aI pc, aI ra, aI re, aR 58, aR 59, aR 60, aI g2, aI se, aR 61, aR 62, aR 63, aR 64, aR 65, aR 66, aI th])) (by funext j9; simp only [up]; (repeat' split) <;> first | rfl | (exfalso; omega)) ?_
                    refine j_iinc (pc' := 97) (z := i) (L' := [some (aR 53), some (aI s), some (aI t), some (aI (i + 1))]) dX12_gone_94 rfl (by decide) rfl rfl rfl ?_
                    refine j_goto (pc' := 65) dX12_gone_97 (by decide) ?_
                    exact ih65 _ (by omega) G2 g2 (i + 1) (by omega) (by exact hdg2) (by rw [hdv2, hd, gon_s hi9.1]) (by exact hfm2) (by rw [hv, fstI_n (by omega) (fun q9 => h76 (by rw [hd]; exact of_decide_eq_true q9))]) rfl
                  · refine j_iload_n (pc' := 80) (z := i) dX12_gone_79 rfl rfl ?_
                    exact j_iret dX12_gone_80 rfl (jM_of (by rw [hv, fstI_y (by omega) (decide_eq_true (by rw [← hd]; exact h76))]) hT.fi.ob)
            exact lp65 _ G1 g1 0 (by omega) (by exact hdg1) (by rw [hdv1, hone.2]; simp) (by exact hfm1) (by unfold goneA; rw [if_pos (by omega)]; rfl) rfl
          · refine j_aload_n (pc' := 31) (z := 53) dX12_gone_30 rfl rfl ?_
            refine j_get (pc' := 34) (v := aR 60) dX12_gone_31 rfl f_Mod_28 (by omega) ((up_n (by omega)).trans hO) rfl ?_
            refine j_iload_n (pc' := 35) (z := i) dX12_gone_34 rfl rfl ?_
            refine j_iload_n (pc' := 36) (z := i) dX12_gone_35 rfl rfl ?_
            refine j_if_ne (tgt := 43) (pc' := 39) dX12_gone_36 (by decide) rfl (by omega) (fun h36 => ?_) (fun h36 => ?_)
            · refine j_iconst (pc' := 44) dX12_gone_43 rfl ?_
              refine j_iast (pc' := 45) dX12_gone_44 rfl (by omega) up_s (by omega) (by decide) ?_
              refine j_w (w' := up w 60 (eI 80 (upi X i 0))) (by funext j9; simp only [up]; (repeat' split) <;> first | rfl | (exfalso; omega)) ?_
              refine j_iinc (pc' := 48) (z := i) (L' := [some (aR 53), some (aI s), some (aI t), some (aI (i + 1))]) dX12_gone_45 rfl (by decide) rfl rfl rfl ?_
              refine j_goto (pc' := 24) dX12_gone_48 (by decide) ?_
              exact ih24 _ (by omega) (upi X i 0) (i + 1) (by omega) (by intro j j1 j2; by_cases ji : j = i; (subst ji; rw [upi_s]; first | rw [if_pos (by omega)] | rw [if_neg (by omega)]); (rw [upi_n ji]; exact hX j j1 (by omega))) rfl
            · refine j_iconst (pc' := 40) dX12_gone_39 rfl ?_
              refine j_goto (pc' := 44) dX12_gone_40 (by decide) ?_
              refine j_iast (pc' := 45) dX12_gone_44 rfl (by omega) up_s (by omega) (by decide) ?_
              refine j_w (w' := up w 60 (eI 80 (upi X i 1))) (by funext j9; simp only [up]; (repeat' split) <;> first | rfl | (exfalso; omega)) ?_
              refine j_iinc (pc' := 48) (z := i) (L' := [some (aR 53), some (aI s), some (aI t), some (aI (i + 1))]) dX12_gone_45 rfl (by decide) rfl rfl rfl ?_
              refine j_goto (pc' := 24) dX12_gone_48 (by decide) ?_
              exact ih24 _ (by omega) (upi X i 1) (i + 1) (by omega) (by intro j j1 j2; by_cases ji : j = i; (subst ji; rw [upi_s]; first | rw [if_pos (by omega)] | rw [if_neg (by omega)]); (rw [upi_n ji]; exact hX j j1 (by omega))) rfl
      refine j_w (w' := up w 60 (eI 80 fg)) (by funext j9; simp only [up]; (repeat' split) <;> first | rfl | (subst_vars; assumption) | (subst_vars; symm; assumption) | (exfalso; omega)) ?_
      exact lp24 _ fg 0 (by omega) (by intro j j1 j2; omega) rfl
    · refine j_iconst (pc' := 21) dX12_gone_20 rfl ?_
      exact j_iret dX12_gone_21 rfl (jM_of (by unfold goneA; rw [if_neg (by omega)]) hT)
set_option maxRecDepth 100000 in
set_option maxHeartbeats 4000000 in
theorem c_Mod_wrongEar {l : Launch} {w : AW} {D Di : Int → Int → Int} {n mi hi ni mj : Int} {sh E : Int → Int → Int} {d r : Int} (hM : Mod w D n mi hi Di ni mj sh E) (hB : CarOK D n mi) (hsh : ShOK sh E) (hd : inI d) (hr : inI r) : Call l m_Mod_wrongEar false 68 68 [aR 53, aI d, aI r] w (rt (some (aI (erR sh E d r))) w) := by
  have hT := MS.rf hM
  have hM0 := hM
  obtain ⟨⟨pc, ra, re, fm, se, th, hO⟩, ⟨S, hS, hR⟩, ⟨Sm, hSm⟩, ⟨Si, hSi, hRi⟩, ⟨Sw, hSw⟩, ⟨nu, hnu⟩, ⟨ha, hha⟩, ⟨fg, hfg⟩, ke, kk, kf, so, si, el, ⟨hke, hkk, hkf, hso, hsi, hel⟩, hRel⟩ := hM
  obtain ⟨hn, hD, hs0, hs1, hs2, hs3⟩ := id hB
  refine Call.of (L := [some (aR 53), some (aI d), some (aI r), none, none]) rfl (Nat.le_of_ble_eq_true rfl) rfl (fun G ad => ?_)
  refine j_iload_n (pc' := 1) (z := r) dX12_wrongEar_0 rfl rfl ?_
  refine j_iconst (pc' := 2) dX12_wrongEar_1 rfl ?_
  refine j_bipush (pc' := 4) dX12_wrongEar_2 rfl (by decide) ?_
  refine j_callS (pc' := 7) (as := [aI r, aI 0, aI 9]) (rest := []) dX12_wrongEar_4 rfl s_Mod_49 (c_Mod_isIn (by omega) (by omega) (by omega)) rfl rfl rfl (jdet (st' := [aB (0 ≤ r ∧ r ≤ 9)]) rfl ?_)
  refine j_ifb_ne (tgt := 12) (pc' := 10) dX12_wrongEar_7 (by decide) rfl (fun h7 => ?_) (fun h7 => ?_)
  · refine j_aload_n (pc' := 13) (z := 53) dX12_wrongEar_12 rfl rfl ?_
    refine j_iload_n (pc' := 14) (z := d) dX12_wrongEar_13 rfl rfl ?_
    refine j_iconst (pc' := 15) dX12_wrongEar_14 rfl ?_
    refine j_callV (pc' := 18) (as := [aI d, aI (-1)]) (rest := []) dX12_wrongEar_15 rfl s_Mod_127 (c_Mod_wrongRowN hT.1 hB hsh (by omega)) (by omega) hO rfl rfl rfl rfl (jdet (st' := [aI (rowR sh d)]) rfl ?_)
    have hrb := rowR_bd (sh := sh) (d := d)
    refine j_istore_n (pc' := 19) (L' := [some (aR 53), some (aI d), some (aI r), some (aI (rowR sh d)), none]) dX12_wrongEar_18 rfl (by decide) rfl ?_
    refine j_iload_n (pc' := 20) (z := (rowR sh d)) dX12_wrongEar_19 rfl rfl ?_
    refine j_if_eq (tgt := 25) (pc' := 23) dX12_wrongEar_20 (by decide) rfl (by omega) (fun h20 => ?_) (fun h20 => ?_)
    · obtain ⟨hd7, hct⟩ := rowR_0 h20
      obtain ⟨q1, q2, q3, q4, q5, q6⟩ := id (hsh d (by omega))
      refine j_aload_n (pc' := 26) (z := 53) dX12_wrongEar_25 rfl rfl ?_
      refine j_get (pc' := 29) (v := aR 65) dX12_wrongEar_26 rfl f_Mod_43 (by omega) hO rfl ?_
      refine j_iload_n (pc' := 30) (z := d) dX12_wrongEar_29 rfl rfl ?_
      refine j_iald (pc' := 31) dX12_wrongEar_30 rfl (by omega) hsi (by omega) (by decide) ?_
      refine j_top (b := sh 4 d) ((hRel d (by omega)).2.2 (by omega)).2.1 ?_
      refine j_bipush (pc' := 33) dX12_wrongEar_31 rfl (by decide) ?_
      refine j_icmp_le (tgt := 39) (pc' := 36) dX12_wrongEar_33 (by decide) rfl (by omega) (by omega) (fun h33 => ?_) (fun h33 => ?_)
      · refine j_iconst (pc' := 40) dX12_wrongEar_39 rfl ?_
        refine j_istore (pc' := 42) (L' := [some (aR 53), some (aI d), some (aI r), some (aI (rowR sh d)), some (aI 0)]) dX12_wrongEar_40 rfl (by decide) rfl ?_
        have lp42 : ∀ (k9 : Nat) (i : Int), (0 ≤ i ∧ i ≤ sh 4 d) → (allI (seatP (E d)) i = true) → ((sh 4 d - i).toNat) = k9 → J l m_Mod_wrongEar ad G [] false (jZ ad G false 68 m_Mod_wrongEar.2.2.2.2.cells m_Mod_wrongEar.2.2.2.2.slots (rt (some (aI (erR sh E d r))) w)) 68 0 0 42 [some (aR 53), some (aI d), some (aI r), some (aI (rowR sh d)), some (aI i)] [] w := by
          intro k9
          induction k9 using Nat.strongRecOn with
          | _ k9 ih42 =>
            intro i hi9 ha hk42
            refine j_iload (pc' := 44) (z := i) dX12_wrongEar_42 rfl rfl ?_
            refine j_aload_n (pc' := 45) (z := 53) dX12_wrongEar_44 rfl rfl ?_
            refine j_get (pc' := 48) (v := aR 65) dX12_wrongEar_45 rfl f_Mod_43 (by omega) hO rfl ?_
            refine j_iload_n (pc' := 49) (z := d) dX12_wrongEar_48 rfl rfl ?_
            refine j_iald (pc' := 50) dX12_wrongEar_49 rfl (by omega) hsi (by omega) (by decide) ?_
            refine j_top (b := sh 4 d) ((hRel d (by omega)).2.2 (by omega)).2.1 ?_
            refine j_icmp_ge (tgt := 80) (pc' := 53) dX12_wrongEar_50 (by decide) rfl (by omega) (by omega) (fun h50 => ?_) (fun h50 => ?_)
            · refine j_iconst (pc' := 81) dX12_wrongEar_80 rfl ?_
              exact j_iret dX12_wrongEar_81 rfl (rt_eq (by unfold erR tsR; rw [if_pos (by omega), if_pos h20, if_neg (by omega), if_pos (by rw [show sh 4 d = i by omega]; exact ha)]))
            · have hEi := q6 i (by omega) (by omega)
              refine j_aload_n (pc' := 54) (z := 53) dX12_wrongEar_53 rfl rfl ?_
              refine j_get (pc' := 57) (v := aR 66) dX12_wrongEar_54 rfl f_Mod_46 (by omega) hO rfl ?_
              refine j_bipush (pc' := 59) dX12_wrongEar_57 rfl (by decide) ?_
              refine j_iload_n (pc' := 60) (z := d) dX12_wrongEar_59 rfl rfl ?_
              refine j_imul (pc' := 61) dX12_wrongEar_60 rfl ?_
              refine j_iload (pc' := 63) (z := i) dX12_wrongEar_61 rfl rfl ?_
              refine j_iadd (pc' := 64) dX12_wrongEar_63 rfl ?_
              refine j_iald (pc' := 65) dX12_wrongEar_64 rfl (by omega) hel (by omega) (by decide) ?_
              refine j_top (b := E d i) (((hRel d (by omega)).2.2 (by omega)).2.2 i (by omega)) ?_
              refine j_callS (pc' := 68) (as := [aI (E d i)]) (rest := []) dX12_wrongEar_65 rfl s_Mod_111 (c_Mod_isSeat (by omega)) rfl rfl rfl (jdet (st' := [aB (0 ≤ E d i ∧ E d i ≤ 3)]) rfl ?_)
              refine j_ifb_ne (tgt := 74) (pc' := 71) dX12_wrongEar_68 (by decide) rfl (fun h68 => ?_) (fun h68 => ?_)
              · refine j_iinc (pc' := 77) (z := i) (L' := [some (aR 53), some (aI d), some (aI r), some (aI (rowR sh d)), some (aI (i + 1))]) dX12_wrongEar_74 rfl (by decide) rfl rfl rfl ?_
                refine j_goto (pc' := 42) dX12_wrongEar_77 (by decide) ?_
                exact ih42 _ (by omega) (i + 1) (by omega) (by rw [allI_s (by omega), ha, Bool.true_and]; exact decide_eq_true h68) rfl
              · refine j_bipush (pc' := 73) dX12_wrongEar_71 rfl (by decide) ?_
                exact j_iret dX12_wrongEar_73 rfl (rt_eq (by unfold erR tsR; rw [if_pos (by omega), if_pos h20, if_neg (by omega), if_neg (allI_no (k := i) (by omega) (fun q9 => h68 (of_decide_eq_true q9)))]))
        exact lp42 _ 0 (by omega) (by rfl) rfl
      · refine j_bipush (pc' := 38) dX12_wrongEar_36 rfl (by decide) ?_
        exact j_iret dX12_wrongEar_38 rfl (rt_eq (by unfold erR tsR; rw [if_pos (by omega), if_pos h20, if_pos (by omega)]))
    · refine j_iload_n (pc' := 24) (z := (rowR sh d)) dX12_wrongEar_23 rfl rfl ?_
      exact j_iret dX12_wrongEar_24 rfl (rt_eq (by unfold erR tsR; rw [if_pos (by omega), if_neg h20]))
  · refine j_iconst (pc' := 11) dX12_wrongEar_10 rfl ?_
    exact j_iret dX12_wrongEar_11 rfl (rt_eq (by unfold erR; rw [if_neg (by omega)]))
set_option maxRecDepth 100000 in
set_option maxHeartbeats 4000000 in
theorem c_Mod_earOf {l : Launch} {w : AW} {D Di : Int → Int → Int} {n mi hi ni mj : Int} {sh E : Int → Int → Int} {d r seat : Int} (hM : Mod w D n mi hi Di ni mj sh E) (hB : CarOK D n mi) (hsh : ShOK sh E) (hd7 : 0 ≤ d ∧ d ≤ 7) (hct : sh 0 d = 2) (hz8 : sh 4 d ≤ 8) (hr : 0 ≤ r ∧ r ≤ 9) (hse : 0 ≤ seat ∧ seat ≤ 3) : Call l m_Mod_earOf false 68 68 [aR 53, aI d, aI r, aI seat] w (rt (some (aL (lk (E d) (sh 4 d) r seat))) w) := by
  have hT := MS.rf hM
  have hM0 := hM
  obtain ⟨⟨pc, ra, re, fm, se, th, hO⟩, ⟨S, hS, hR⟩, ⟨Sm, hSm⟩, ⟨Si, hSi, hRi⟩, ⟨Sw, hSw⟩, ⟨nu, hnu⟩, ⟨ha, hha⟩, ⟨fg, hfg⟩, ke, kk, kf, so, si, el, ⟨hke, hkk, hkf, hso, hsi, hel⟩, hRel⟩ := hM
  obtain ⟨hn, hD, hs0, hs1, hs2, hs3⟩ := id hB
  obtain ⟨q1, q2, q3, q4, q5, q6⟩ := id (hsh d (by omega))
  refine Call.of (L := [some (aR 53), some (aI d), some (aI r), some (aI seat), none, none, none]) rfl (Nat.le_of_ble_eq_true rfl) rfl (fun G ad => ?_)
  refine j_lconst (pc' := 1) (z := 1) dX12_earOf_0 rfl rfl ?_
  refine j_lstore (pc' := 3) (L' := [some (aR 53), some (aI d), some (aI r), some (aI seat), some (aL 1), none, none]) dX12_earOf_1 rfl (by decide) rfl ?_
  refine j_iconst (pc' := 4) dX12_earOf_3 rfl ?_
  refine j_istore (pc' := 6) (L' := [some (aR 53), some (aI d), some (aI r), some (aI seat), some (aL 1), none, some (aI 0)]) dX12_earOf_4 rfl (by decide) rfl ?_
  have lp6 : ∀ (k9 : Nat) (v : Int) (i : Int), (0 ≤ i ∧ i ≤ sh 4 d) → (v = lk (E d) i r seat) → (0 ≤ v ∧ v ≤ 282429536481) → ((sh 4 d - i).toNat) = k9 → J l m_Mod_earOf ad G [] false (jZ ad G false 68 m_Mod_earOf.2.2.2.2.cells m_Mod_earOf.2.2.2.2.slots (rt (some (aL (lk (E d) (sh 4 d) r seat))) w)) 68 0 0 6 [some (aR 53), some (aI d), some (aI r), some (aI seat), some (aL v), none, some (aI i)] [] w := by
    intro k9
    induction k9 using Nat.strongRecOn with
    | _ k9 ih6 =>
      intro v i hi hv hvb hk6
      refine j_iload (pc' := 8) (z := i) dX12_earOf_6 rfl rfl ?_
      refine j_aload_n (pc' := 9) (z := 53) dX12_earOf_8 rfl rfl ?_
      refine j_get (pc' := 12) (v := aR 65) dX12_earOf_9 rfl f_Mod_43 (by omega) hO rfl ?_
      refine j_iload_n (pc' := 13) (z := d) dX12_earOf_12 rfl rfl ?_
      refine j_iald (pc' := 14) dX12_earOf_13 rfl (by omega) hsi (by omega) (by decide) ?_
      refine j_top (b := sh 4 d) ((hRel d (by omega)).2.2 (by omega)).2.1 ?_
      refine j_icmp_ge (tgt := 56) (pc' := 17) dX12_earOf_14 (by decide) rfl (by omega) (by omega) (fun h14 => ?_) (fun h14 => ?_)
      · refine j_lload (pc' := 58) (z := v) dX12_earOf_56 rfl rfl ?_
        exact j_lret dX12_earOf_58 rfl (rt_eqL (by rw [hv, show i = sh 4 d by omega]))
      · have hEi := q6 i (by omega) (by omega)
        refine j_lload (pc' := 19) (z := v) dX12_earOf_17 rfl rfl ?_
        refine j_aload_n (pc' := 20) (z := 53) dX12_earOf_19 rfl rfl ?_
        refine j_get (pc' := 23) (v := aR 66) dX12_earOf_20 rfl f_Mod_46 (by omega) hO rfl ?_
        refine j_bipush (pc' := 25) dX12_earOf_23 rfl (by decide) ?_
        refine j_iload_n (pc' := 26) (z := d) dX12_earOf_25 rfl rfl ?_
        refine j_imul (pc' := 27) dX12_earOf_26 rfl ?_
        refine j_iload (pc' := 29) (z := i) dX12_earOf_27 rfl rfl ?_
        refine j_iadd (pc' := 30) dX12_earOf_29 rfl ?_
        refine j_iald (pc' := 31) dX12_earOf_30 rfl (by omega) hel (by omega) (by decide) ?_
        refine j_top (b := E d i) (((hRel d (by omega)).2.2 (by omega)).2.2 i (by omega)) ?_
        refine j_iload_n (pc' := 32) (z := seat) dX12_earOf_31 rfl rfl ?_
        refine j_icmp_ne (tgt := 42) (pc' := 35) dX12_earOf_32 (by decide) rfl (by omega) (by omega) (fun h32 => ?_) (fun h32 => ?_)
        · refine j_bipush (pc' := 44) dX12_earOf_42 rfl (by decide) ?_
          refine j_iload_n (pc' := 45) (z := r) dX12_earOf_44 rfl rfl ?_
          refine j_isub (pc' := 46) dX12_earOf_45 rfl ?_
          refine j_i2l (pc' := 47) dX12_earOf_46 rfl (by omega) ?_
          refine j_lmul (pc' := 48) dX12_earOf_47 rfl ?_
          refine j_lstore (pc' := 50) (L' := [some (aR 53), some (aI d), some (aI r), some (aI seat), some (aL (v * (10 - r))), none, some (aI i)]) dX12_earOf_48 rfl (by decide) rfl ?_
          refine j_iinc (pc' := 53) (z := i) (L' := [some (aR 53), some (aI d), some (aI r), some (aI seat), some (aL (v * (10 - r))), none, some (aI (i + 1))]) dX12_earOf_50 rfl (by decide) rfl rfl rfl ?_
          refine j_goto (pc' := 6) dX12_earOf_53 (by decide) ?_
          exact ih6 _ (by omega) (v * (10 - r)) (i + 1) (by omega) (by rw [hv, lk_s (by omega)]; unfold lkF; first | rw [if_pos h32] | rw [if_neg h32]) (by have hb := lk_bd (F := E d) (seat := seat) hr (show 0 ≤ i + 1 ∧ i + 1 ≤ 8 by omega); rw [lk_s (by omega)] at hb; unfold lkF at hb; rw [hv]; first | (rw [if_pos h32] at hb; exact hb) | (rw [if_neg h32] at hb; exact hb)) rfl
        · refine j_iconst (pc' := 36) dX12_earOf_35 rfl ?_
          refine j_iload_n (pc' := 37) (z := r) dX12_earOf_36 rfl rfl ?_
          refine j_imul (pc' := 38) dX12_earOf_37 rfl ?_
          refine j_i2l (pc' := 39) dX12_earOf_38 rfl (by omega) ?_
          refine j_goto (pc' := 47) dX12_earOf_39 (by decide) ?_
          refine j_lmul (pc' := 48) dX12_earOf_47 rfl ?_
          refine j_lstore (pc' := 50) (L' := [some (aR 53), some (aI d), some (aI r), some (aI seat), some (aL (v * (3 * r))), none, some (aI i)]) dX12_earOf_48 rfl (by decide) rfl ?_
          refine j_iinc (pc' := 53) (z := i) (L' := [some (aR 53), some (aI d), some (aI r), some (aI seat), some (aL (v * (3 * r))), none, some (aI (i + 1))]) dX12_earOf_50 rfl (by decide) rfl rfl rfl ?_
          refine j_goto (pc' := 6) dX12_earOf_53 (by decide) ?_
          exact ih6 _ (by omega) (v * (3 * r)) (i + 1) (by omega) (by rw [hv, lk_s (by omega)]; unfold lkF; first | rw [if_pos h32] | rw [if_neg h32]) (by have hb := lk_bd (F := E d) (seat := seat) hr (show 0 ≤ i + 1 ∧ i + 1 ≤ 8 by omega); rw [lk_s (by omega)] at hb; unfold lkF at hb; rw [hv]; first | (rw [if_pos h32] at hb; exact hb) | (rw [if_neg h32] at hb; exact hb)) rfl
  exact lp6 _ 1 0 (by omega) (by rfl) (by omega) rfl
set_option maxRecDepth 100000 in
set_option maxHeartbeats 4000000 in
theorem c_Mod_ear {l : Launch} {w : AW} {D Di : Int → Int → Int} {n mi hi ni mj : Int} {sh E : Int → Int → Int} {d r s p : Int} (hM : Mod w D n mi hi Di ni mj sh E) (hB : CarOK D n mi) (hI : CarOK Di ni mj) (hhi : hi = 0 ∨ hi = 1) (hsh : ShOK sh E) (hwd : WdOK D) (hd : inI d) (hr : inI r) (hs : inI s) (hp : inI p) : Call l m_Mod_ear false 68 68 [aR 53, aI d, aI r, aI s, aI p] w (jML w (earA sh E d r s p) D n mi hi Di ni mj sh E) := by
  have hT := MS.rf hM
  have hM0 := hM
  obtain ⟨⟨pc, ra, re, fm, se, th, hO⟩, ⟨S, hS, hR⟩, ⟨Sm, hSm⟩, ⟨Si, hSi, hRi⟩, ⟨Sw, hSw⟩, ⟨nu, hnu⟩, ⟨ha, hha⟩, ⟨fg, hfg⟩, ke, kk, kf, so, si, el, ⟨hke, hkk, hkf, hso, hsi, hel⟩, hRel⟩ := hM
  obtain ⟨hn, hD, hs0, hs1, hs2, hs3⟩ := id hB
  refine Call.of (L := [some (aR 53), some (aI d), some (aI r), some (aI s), some (aI p), none, none, none, none]) rfl (Nat.le_of_ble_eq_true rfl) rfl (fun G ad => ?_)
  refine j_iload_n (pc' := 1) (z := s) dX12_ear_0 rfl rfl ?_
  refine j_callS (pc' := 4) (as := [aI s]) (rest := []) dX12_ear_1 rfl s_Mod_111 (c_Mod_isSeat (by omega)) rfl rfl rfl (jdet (st' := [aB (0 ≤ s ∧ s ≤ 3)]) rfl ?_)
  refine j_ifb_eq (tgt := 17) (pc' := 7) dX12_ear_4 (by decide) rfl (fun h4 => ?_) (fun h4 => ?_)
  · refine j_ldc2 (pc' := 20) (n := -1000000001) dX12_ear_17 rfl k_Mod_183 (by decide) ?_
    exact j_lret dX12_ear_20 rfl (jML_of (by unfold earA; rw [if_neg (by omega)]) hT)
  · refine j_iload (pc' := 9) (z := p) dX12_ear_7 rfl rfl ?_
    refine j_iconst (pc' := 10) dX12_ear_9 rfl ?_
    refine j_iconst (pc' := 11) dX12_ear_10 rfl ?_
    refine j_callS (pc' := 14) (as := [aI p, aI 0, aI 1]) (rest := []) dX12_ear_11 rfl s_Mod_49 (c_Mod_isIn (by omega) (by omega) (by omega)) rfl rfl rfl (jdet (st' := [aB (0 ≤ p ∧ p ≤ 1)]) rfl ?_)
    refine j_ifb_ne (tgt := 21) (pc' := 17) dX12_ear_14 (by decide) rfl (fun h14 => ?_) (fun h14 => ?_)
    · refine j_aload_n (pc' := 22) (z := 53) dX12_ear_21 rfl rfl ?_
      refine j_iload_n (pc' := 23) (z := d) dX12_ear_22 rfl rfl ?_
      refine j_iload_n (pc' := 24) (z := r) dX12_ear_23 rfl rfl ?_
      refine j_callV (pc' := 27) (as := [aI d, aI r]) (rest := []) dX12_ear_24 rfl s_Mod_198 (c_Mod_wrongEar hT.1 hB hsh (by omega) (by omega)) (by omega) hO rfl rfl rfl rfl (jdet (st' := [aI (erR sh E d r)]) rfl ?_)
      refine j_istore (pc' := 29) (L' := [some (aR 53), some (aI d), some (aI r), some (aI s), some (aI p), some (aI (erR sh E d r)), none, none, none]) dX12_ear_27 rfl (by decide) rfl ?_
      have htb := tsR_bd (sh := sh) (E := E) (d := d)
      have heb : -13 ≤ erR sh E d r ∧ erR sh E d r ≤ 0 := by unfold erR; split <;> omega
      refine j_iload (pc' := 31) (z := (erR sh E d r)) dX12_ear_29 rfl rfl ?_
      refine j_if_eq (tgt := 41) (pc' := 34) dX12_ear_31 (by decide) rfl (by omega) (fun h31 => ?_) (fun h31 => ?_)
      · have her : (0 ≤ r ∧ r ≤ 9) ∧ tsR sh E d = 0 := by
          unfold erR at h31
          split at h31 <;> omega
        obtain ⟨⟨hd7, hct⟩, hz8⟩ := tsR_0 her.2
        obtain ⟨q1, q2, q3, q4, q5, q6⟩ := id (hsh d (by omega))
        refine j_lconst (pc' := 42) (z := 0) dX12_ear_41 rfl rfl ?_
        refine j_lstore (pc' := 44) (L' := [some (aR 53), some (aI d), some (aI r), some (aI s), some (aI p), some (aI (erR sh E d r)), some (aL 0), none, none]) dX12_ear_42 rfl (by decide) rfl ?_
        refine j_iconst (pc' := 45) dX12_ear_44 rfl ?_
        refine j_istore (pc' := 47) (L' := [some (aR 53), some (aI d), some (aI r), some (aI s), some (aI p), some (aI (erR sh E d r)), some (aL 0), none, some (aI 0)]) dX12_ear_45 rfl (by decide) rfl ?_
        have lp47 : ∀ (k9 : Nat) (v : Int) (i : Int), (0 ≤ i ∧ i ≤ 4) → (v = lkS (E d) (sh 4 d) r i) → ((4 - i).toNat) = k9 → J l m_Mod_ear ad G [] false (jZ ad G false 68 m_Mod_ear.2.2.2.2.cells m_Mod_ear.2.2.2.2.slots (jML w (earA sh E d r s p) D n mi hi Di ni mj sh E)) 68 0 0 47 [some (aR 53), some (aI d), some (aI r), some (aI s), some (aI p), some (aI (erR sh E d r)), some (aL v), none, some (aI i)] [] w := by
          intro k9
          induction k9 using Nat.strongRecOn with
          | _ k9 ih47 =>
            intro v i hi9 hv hk47
            refine j_iload (pc' := 49) (z := i) dX12_ear_47 rfl rfl ?_
            refine j_iconst (pc' := 50) dX12_ear_49 rfl ?_
            refine j_icmp_ge (tgt := 72) (pc' := 53) dX12_ear_50 (by decide) rfl (by omega) (by omega) (fun h50 => ?_) (fun h50 => ?_)
            · refine j_aload_n (pc' := 73) (z := 53) dX12_ear_72 rfl rfl ?_
              refine j_iload_n (pc' := 74) (z := d) dX12_ear_73 rfl rfl ?_
              refine j_iload_n (pc' := 75) (z := r) dX12_ear_74 rfl rfl ?_
              refine j_iload_n (pc' := 76) (z := s) dX12_ear_75 rfl rfl ?_
              refine j_callV (pc' := 79) (as := [aI d, aI r, aI s]) (rest := []) dX12_ear_76 rfl s_Mod_202 (c_Mod_earOf hT.1 hB hsh hd7 hct hz8 (by omega) (by omega)) (by omega) hO rfl rfl rfl rfl (jdet (st' := [aL (lk (E d) (sh 4 d) r s)]) rfl ?_)
              have hl1 := lk_bd (F := E d) (seat := s) (r := r) (sz := sh 4 d) (by omega) (by omega)
              have hl2 := lkS_bd (F := E d) (r := r) (sz := sh 4 d) (k := 4) (by omega) (by omega) (by omega)
              have hl3 := lkS4 (F := E d) (r := r) (sz := sh 4 d) (s := s) (by omega) (by omega) (by omega)
              have hv4 : v = lkS (E d) (sh 4 d) r 4 := by rw [hv, show i = 4 by omega]
              refine j_lload (pc' := 81) (z := v) dX12_ear_79 rfl rfl ?_
              refine j_iload (pc' := 83) (z := p) dX12_ear_81 rfl rfl ?_
              refine j_callS (pc' := 86) (as := [aL (lk (E d) (sh 4 d) r s), aL v, aI p]) (rest := []) dX12_ear_83 rfl s_Mod_179 (c_Mod_partOf (by omega) (by omega) (by omega) (by intro q; omega)) rfl rfl rfl (jdet (st' := [aL (lowT (lk (E d) (sh 4 d) r s) v p)]) rfl ?_)
              exact j_lret dX12_ear_86 rfl (jML_of (by unfold earA; rw [if_pos (by omega), if_pos her.2, hv4]) hT)
            · refine j_lload (pc' := 55) (z := v) dX12_ear_53 rfl rfl ?_
              refine j_aload_n (pc' := 56) (z := 53) dX12_ear_55 rfl rfl ?_
              refine j_iload_n (pc' := 57) (z := d) dX12_ear_56 rfl rfl ?_
              refine j_iload_n (pc' := 58) (z := r) dX12_ear_57 rfl rfl ?_
              refine j_iload (pc' := 60) (z := i) dX12_ear_58 rfl rfl ?_
              refine j_callV (pc' := 63) (as := [aI d, aI r, aI i]) (rest := [aL v]) dX12_ear_60 rfl s_Mod_202 (c_Mod_earOf hT.1 hB hsh hd7 hct hz8 (by omega) (by omega)) (by omega) hO rfl rfl rfl rfl (jdet (st' := [aL (lk (E d) (sh 4 d) r i), aL v]) rfl ?_)
              have hlb := lk_bd (F := E d) (seat := i) (r := r) (sz := sh 4 d) (by omega) (by omega)
              refine j_ladd (pc' := 64) dX12_ear_63 rfl ?_
              refine j_lstore (pc' := 66) (L' := [some (aR 53), some (aI d), some (aI r), some (aI s), some (aI p), some (aI (erR sh E d r)), some (aL (v + (lk (E d) (sh 4 d) r i))), none, some (aI i)]) dX12_ear_64 rfl (by decide) rfl ?_
              refine j_iinc (pc' := 69) (z := i) (L' := [some (aR 53), some (aI d), some (aI r), some (aI s), some (aI p), some (aI (erR sh E d r)), some (aL (v + (lk (E d) (sh 4 d) r i))), none, some (aI (i + 1))]) dX12_ear_66 rfl (by decide) rfl rfl rfl ?_
              refine j_goto (pc' := 47) dX12_ear_69 (by decide) ?_
              exact ih47 _ (by omega) (v + (lk (E d) (sh 4 d) r i)) (i + 1) (by omega) (by rw [hv]; exact (foldI_s (g := fun s x => x + lk (E d) (sh 4 d) r s) (by omega)).symm) rfl
        exact lp47 _ 0 0 (by omega) (by rfl) rfl
      · refine j_ldc (pc' := 36) (n := -1000000000) dX12_ear_34 rfl k_Mod_201 (by decide) ?_
        refine j_iload (pc' := 38) (z := (erR sh E d r)) dX12_ear_36 rfl rfl ?_
        refine j_iadd (pc' := 39) dX12_ear_38 rfl ?_
        refine j_i2l (pc' := 40) dX12_ear_39 rfl (by omega) ?_
        exact j_lret dX12_ear_40 rfl (jML_of (by unfold earA; by_cases q9 : 0 ≤ r ∧ r ≤ 9; (have e9 : erR sh E d r = tsR sh E d := if_pos q9; rw [if_pos (by omega), if_neg (by omega), e9]); (have e9 : erR sh E d r = -1 := if_neg q9; rw [if_neg (by omega), e9]; rfl)) hT)
    · refine j_ldc2 (pc' := 20) (n := -1000000001) dX12_ear_17 rfl k_Mod_183 (by decide) ?_
      exact j_lret dX12_ear_20 rfl (jML_of (by unfold earA; rw [if_neg (by omega)]) hT)
set_option maxRecDepth 100000 in
set_option maxHeartbeats 4000000 in
theorem c_Mod_likeliest {l : Launch} {w : AW} {D Di : Int → Int → Int} {n mi hi ni mj : Int} {sh E : Int → Int → Int} {d r : Int} (hM : Mod w D n mi hi Di ni mj sh E) (hB : CarOK D n mi) (hI : CarOK Di ni mj) (hhi : hi = 0 ∨ hi = 1) (hsh : ShOK sh E) (hwd : WdOK D) (hd : inI d) (hr : inI r) : Call l m_Mod_likeliest false 68 68 [aR 53, aI d, aI r] w (jM w (likA sh E d r) D n mi hi Di ni mj sh E) := by
  have hT := MS.rf hM
  have hM0 := hM
  obtain ⟨⟨pc, ra, re, fm, se, th, hO⟩, ⟨S, hS, hR⟩, ⟨Sm, hSm⟩, ⟨Si, hSi, hRi⟩, ⟨Sw, hSw⟩, ⟨nu, hnu⟩, ⟨ha, hha⟩, ⟨fg, hfg⟩, ke, kk, kf, so, si, el, ⟨hke, hkk, hkf, hso, hsi, hel⟩, hRel⟩ := hM
  obtain ⟨hn, hD, hs0, hs1, hs2, hs3⟩ := id hB
  refine Call.of (L := [some (aR 53), some (aI d), some (aI r), none, none, none]) rfl (Nat.le_of_ble_eq_true rfl) rfl (fun G ad => ?_)
  refine j_aload_n (pc' := 1) (z := 53) dX12_likeliest_0 rfl rfl ?_
  refine j_iload_n (pc' := 2) (z := d) dX12_likeliest_1 rfl rfl ?_
  refine j_iload_n (pc' := 3) (z := r) dX12_likeliest_2 rfl rfl ?_
  refine j_callV (pc' := 6) (as := [aI d, aI r]) (rest := []) dX12_likeliest_3 rfl s_Mod_198 (c_Mod_wrongEar hT.1 hB hsh (by omega) (by omega)) (by omega) hO rfl rfl rfl rfl (jdet (st' := [aI (erR sh E d r)]) rfl ?_)
  refine j_istore_n (pc' := 7) (L' := [some (aR 53), some (aI d), some (aI r), some (aI (erR sh E d r)), none, none]) dX12_likeliest_6 rfl (by decide) rfl ?_
  have htb := tsR_bd (sh := sh) (E := E) (d := d)
  have heb : -13 ≤ erR sh E d r ∧ erR sh E d r ≤ 0 := by unfold erR; split <;> omega
  refine j_iload_n (pc' := 8) (z := (erR sh E d r)) dX12_likeliest_7 rfl rfl ?_
  refine j_if_eq (tgt := 13) (pc' := 11) dX12_likeliest_8 (by decide) rfl (by omega) (fun h8 => ?_) (fun h8 => ?_)
  · have her : (0 ≤ r ∧ r ≤ 9) ∧ tsR sh E d = 0 := by
      unfold erR at h8
      split at h8 <;> omega
    obtain ⟨⟨hd7, hct⟩, hz8⟩ := tsR_0 her.2
    obtain ⟨q1, q2, q3, q4, q5, q6⟩ := id (hsh d (by omega))
    refine j_iconst (pc' := 14) dX12_likeliest_13 rfl ?_
    refine j_istore (pc' := 16) (L' := [some (aR 53), some (aI d), some (aI r), some (aI (erR sh E d r)), some (aI 0), none]) dX12_likeliest_14 rfl (by decide) rfl ?_
    refine j_iconst (pc' := 17) dX12_likeliest_16 rfl ?_
    refine j_istore (pc' := 19) (L' := [some (aR 53), some (aI d), some (aI r), some (aI (erR sh E d r)), some (aI 0), some (aI 1)]) dX12_likeliest_17 rfl (by decide) rfl ?_
    have lp19 : ∀ (k9 : Nat) (b : Int) (i : Int), (1 ≤ i ∧ i ≤ 4) → (b = foldI (lkB (E d) (sh 4 d) r) 0 (i - 1)) → (0 ≤ b ∧ b ≤ 3) → ((4 - i).toNat) = k9 → J l m_Mod_likeliest ad G [] false (jZ ad G false 68 m_Mod_likeliest.2.2.2.2.cells m_Mod_likeliest.2.2.2.2.slots (jM w (likA sh E d r) D n mi hi Di ni mj sh E)) 68 0 0 19 [some (aR 53), some (aI d), some (aI r), some (aI (erR sh E d r)), some (aI b), some (aI i)] [] w := by
      intro k9
      induction k9 using Nat.strongRecOn with
      | _ k9 ih19 =>
        intro b i hi9 hv hvb hk19
        refine j_iload (pc' := 21) (z := i) dX12_likeliest_19 rfl rfl ?_
        refine j_iconst (pc' := 22) dX12_likeliest_21 rfl ?_
        refine j_icmp_ge (tgt := 55) (pc' := 25) dX12_likeliest_22 (by decide) rfl (by omega) (by omega) (fun h22 => ?_) (fun h22 => ?_)
        · refine j_iload (pc' := 57) (z := b) dX12_likeliest_55 rfl rfl ?_
          exact j_iret dX12_likeliest_57 rfl (jM_of (by unfold likA; rw [if_pos (by omega), if_pos her.2, hv, show i - 1 = 3 by omega]) hT)
        · refine j_aload_n (pc' := 26) (z := 53) dX12_likeliest_25 rfl rfl ?_
          refine j_iload_n (pc' := 27) (z := d) dX12_likeliest_26 rfl rfl ?_
          refine j_iload_n (pc' := 28) (z := r) dX12_likeliest_27 rfl rfl ?_
          refine j_iload (pc' := 30) (z := i) dX12_likeliest_28 rfl rfl ?_
          refine j_callV (pc' := 33) (as := [aI d, aI r, aI i]) (rest := []) dX12_likeliest_30 rfl s_Mod_202 (c_Mod_earOf hT.1 hB hsh hd7 hct hz8 (by omega) (by omega)) (by omega) hO rfl rfl rfl rfl (jdet (st' := [aL (lk (E d) (sh 4 d) r i)]) rfl ?_)
          refine j_aload_n (pc' := 34) (z := 53) dX12_likeliest_33 rfl rfl ?_
          refine j_iload_n (pc' := 35) (z := d) dX12_likeliest_34 rfl rfl ?_
          refine j_iload_n (pc' := 36) (z := r) dX12_likeliest_35 rfl rfl ?_
          refine j_iload (pc' := 38) (z := b) dX12_likeliest_36 rfl rfl ?_
          refine j_callV (pc' := 41) (as := [aI d, aI r, aI b]) (rest := [aL (lk (E d) (sh 4 d) r i)]) dX12_likeliest_38 rfl s_Mod_202 (c_Mod_earOf hT.1 hB hsh hd7 hct hz8 (by omega) (by omega)) (by omega) hO rfl rfl rfl rfl (jdet (st' := [aL (lk (E d) (sh 4 d) r b), aL (lk (E d) (sh 4 d) r i)]) rfl ?_)
          have hl1 := lk_bd (F := E d) (seat := i) (r := r) (sz := sh 4 d) (by omega) (by omega)
          have hl2 := lk_bd (F := E d) (seat := b) (r := r) (sz := sh 4 d) (by omega) (by omega)
          have hlg := lcI_gt (a := lk (E d) (sh 4 d) r i) (b := lk (E d) (sh 4 d) r b)
          have hlb := lcI_bd (a := lk (E d) (sh 4 d) r i) (b := lk (E d) (sh 4 d) r b)
          refine j_lcmp (pc' := 42) dX12_likeliest_41 rfl (by omega) (by omega) ?_
          refine j_if_le (tgt := 49) (pc' := 45) dX12_likeliest_42 (by decide) rfl (by omega) (fun h42 => ?_) (fun h42 => ?_)
          · refine j_iinc (pc' := 52) (z := i) (L' := [some (aR 53), some (aI d), some (aI r), some (aI (erR sh E d r)), some (aI b), some (aI (i + 1))]) dX12_likeliest_49 rfl (by decide) rfl rfl rfl ?_
            refine j_goto (pc' := 19) dX12_likeliest_52 (by decide) ?_
            exact ih19 _ (by omega) b (i + 1) (by omega) (by rw [show i + 1 - 1 = (i - 1) + 1 by omega, foldI_s (by omega), ← hv]; unfold lkB; rw [show i - 1 + 1 = i by omega]; first | rw [if_pos (by omega)] | rw [if_neg (by omega)]) (by omega) rfl
          · refine j_iload (pc' := 47) (z := i) dX12_likeliest_45 rfl rfl ?_
            refine j_istore (pc' := 49) (L' := [some (aR 53), some (aI d), some (aI r), some (aI (erR sh E d r)), some (aI i), some (aI i)]) dX12_likeliest_47 rfl (by decide) rfl ?_
            refine j_iinc (pc' := 52) (z := i) (L' := [some (aR 53), some (aI d), some (aI r), some (aI (erR sh E d r)), some (aI i), some (aI (i + 1))]) dX12_likeliest_49 rfl (by decide) rfl rfl rfl ?_
            refine j_goto (pc' := 19) dX12_likeliest_52 (by decide) ?_
            exact ih19 _ (by omega) i (i + 1) (by omega) (by rw [show i + 1 - 1 = (i - 1) + 1 by omega, foldI_s (by omega), ← hv]; unfold lkB; rw [show i - 1 + 1 = i by omega]; first | rw [if_pos (by omega)] | rw [if_neg (by omega)]) (by omega) rfl
    exact lp19 _ 0 1 (by omega) (by rfl) (by omega) rfl
  · refine j_iload_n (pc' := 12) (z := (erR sh E d r)) dX12_likeliest_11 rfl rfl ?_
    exact j_iret dX12_likeliest_12 rfl (jM_of (by unfold likA; by_cases q9 : 0 ≤ r ∧ r ≤ 9; (have e9 : erR sh E d r = tsR sh E d := if_pos q9; rw [if_pos q9, if_neg (by omega), e9]); (have e9 : erR sh E d r = -1 := if_neg q9; rw [if_neg q9, e9])) hT)
set_option maxRecDepth 100000 in
set_option maxHeartbeats 4000000 in
theorem c_Mod_mechanic {l : Launch} {w : AW} {D Di : Int → Int → Int} {n mi hi ni mj : Int} {sh E : Int → Int → Int} {s h c x : Int} (hM : Mod w D n mi hi Di ni mj sh E) (hB : CarOK D n mi) (hI : CarOK Di ni mj) (hhi : hi = 0 ∨ hi = 1) (hsh : ShOK sh E) (hwd : WdOK D) (hs : inI s) (hh : inI h) (hc : inI c) (hx : inI x) : Call l m_Mod_mechanic false 68 68 [aR 53, aI s, aI h, aI c, aI x] w (jM w (mechA s h c x) D n mi hi Di ni mj sh E) := by
  have hT := MS.rf hM
  have hM0 := hM
  obtain ⟨⟨pc, ra, re, fm, se, th, hO⟩, ⟨S, hS, hR⟩, ⟨Sm, hSm⟩, ⟨Si, hSi, hRi⟩, ⟨Sw, hSw⟩, ⟨nu, hnu⟩, ⟨ha, hha⟩, ⟨fg, hfg⟩, ke, kk, kf, so, si, el, ⟨hke, hkk, hkf, hso, hsi, hel⟩, hRel⟩ := hM
  obtain ⟨hn, hD, hs0, hs1, hs2, hs3⟩ := id hB
  refine Call.of (L := [some (aR 53), some (aI s), some (aI h), some (aI c), some (aI x), none, none, none, none, none]) rfl (Nat.le_of_ble_eq_true rfl) rfl (fun G ad => ?_)
  refine j_iload_n (pc' := 1) (z := s) dX12_mechanic_0 rfl rfl ?_
  refine j_iconst (pc' := 2) dX12_mechanic_1 rfl ?_
  refine j_bipush (pc' := 4) dX12_mechanic_2 rfl (by decide) ?_
  refine j_callS (pc' := 7) (as := [aI s, aI 0, aI 9]) (rest := []) dX12_mechanic_4 rfl s_Mod_49 (c_Mod_isIn (by omega) (by omega) (by omega)) rfl rfl rfl (jdet (st' := [aB (0 ≤ s ∧ s ≤ 9)]) rfl ?_)
  refine j_ifb_eq (tgt := 40) (pc' := 10) dX12_mechanic_7 (by decide) rfl (fun h7 => ?_) (fun h7 => ?_)
  · refine j_iconst (pc' := 41) dX12_mechanic_40 rfl ?_
    exact j_iret dX12_mechanic_41 rfl (jM_of (by unfold mechA; rw [if_neg (by omega)]) hT)
  · refine j_iload_n (pc' := 11) (z := h) dX12_mechanic_10 rfl rfl ?_
    refine j_iconst (pc' := 12) dX12_mechanic_11 rfl ?_
    refine j_bipush (pc' := 14) dX12_mechanic_12 rfl (by decide) ?_
    refine j_callS (pc' := 17) (as := [aI h, aI 1, aI 9]) (rest := []) dX12_mechanic_14 rfl s_Mod_49 (c_Mod_isIn (by omega) (by omega) (by omega)) rfl rfl rfl (jdet (st' := [aB (1 ≤ h ∧ h ≤ 9)]) rfl ?_)
    refine j_ifb_eq (tgt := 40) (pc' := 20) dX12_mechanic_17 (by decide) rfl (fun h17 => ?_) (fun h17 => ?_)
    · refine j_iconst (pc' := 41) dX12_mechanic_40 rfl ?_
      exact j_iret dX12_mechanic_41 rfl (jM_of (by unfold mechA; rw [if_neg (by omega)]) hT)
    · refine j_iload_n (pc' := 21) (z := c) dX12_mechanic_20 rfl rfl ?_
      refine j_iconst (pc' := 22) dX12_mechanic_21 rfl ?_
      refine j_bipush (pc' := 24) dX12_mechanic_22 rfl (by decide) ?_
      refine j_callS (pc' := 27) (as := [aI c, aI 0, aI 99]) (rest := []) dX12_mechanic_24 rfl s_Mod_49 (c_Mod_isIn (by omega) (by omega) (by omega)) rfl rfl rfl (jdet (st' := [aB (0 ≤ c ∧ c ≤ 99)]) rfl ?_)
      refine j_ifb_eq (tgt := 40) (pc' := 30) dX12_mechanic_27 (by decide) rfl (fun h27 => ?_) (fun h27 => ?_)
      · refine j_iconst (pc' := 41) dX12_mechanic_40 rfl ?_
        exact j_iret dX12_mechanic_41 rfl (jM_of (by unfold mechA; rw [if_neg (by omega)]) hT)
      · refine j_iload (pc' := 32) (z := x) dX12_mechanic_30 rfl rfl ?_
        refine j_iconst (pc' := 33) dX12_mechanic_32 rfl ?_
        refine j_iconst (pc' := 34) dX12_mechanic_33 rfl ?_
        refine j_callS (pc' := 37) (as := [aI x, aI 0, aI 1]) (rest := []) dX12_mechanic_34 rfl s_Mod_49 (c_Mod_isIn (by omega) (by omega) (by omega)) rfl rfl rfl (jdet (st' := [aB (0 ≤ x ∧ x ≤ 1)]) rfl ?_)
        refine j_ifb_ne (tgt := 42) (pc' := 40) dX12_mechanic_37 (by decide) rfl (fun h37 => ?_) (fun h37 => ?_)
        · refine j_lconst (pc' := 43) (z := 1) dX12_mechanic_42 rfl rfl ?_
          refine j_lstore (pc' := 45) (L' := [some (aR 53), some (aI s), some (aI h), some (aI c), some (aI x), some (aL 1), none, none, none, none]) dX12_mechanic_43 rfl (by decide) rfl ?_
          refine j_lconst (pc' := 46) (z := 1) dX12_mechanic_45 rfl rfl ?_
          refine j_lstore (pc' := 48) (L' := [some (aR 53), some (aI s), some (aI h), some (aI c), some (aI x), some (aL 1), none, some (aL 1), none, none]) dX12_mechanic_46 rfl (by decide) rfl ?_
          refine j_iconst (pc' := 49) dX12_mechanic_48 rfl ?_
          refine j_istore (pc' := 51) (L' := [some (aR 53), some (aI s), some (aI h), some (aI c), some (aI x), some (aL 1), none, some (aL 1), none, some (aI 0)]) dX12_mechanic_49 rfl (by decide) rfl ?_
          have lp51 : ∀ (k9 : Nat) (a : Int) (m : Int) (i : Int) (e : Nat), (0 ≤ i ∧ i ≤ 10) → (a = 10 ^ e) → ((e : Int) = i) → (1 ≤ a ∧ (i ≤ 9 → a ≤ 1000000000)) → (0 ≤ m ∧ m ≤ a) → (mcI s h 10 0 1 1 = mcI s h (10 - i).toNat i a m) → ((10 - i).toNat) = k9 → J l m_Mod_mechanic ad G [] false (jZ ad G false 68 m_Mod_mechanic.2.2.2.2.cells m_Mod_mechanic.2.2.2.2.slots (jM w (mechA s h c x) D n mi hi Di ni mj sh E)) 68 0 0 51 [some (aR 53), some (aI s), some (aI h), some (aI c), some (aI x), some (aL a), none, some (aL m), none, some (aI i)] [] w := by
            intro k9
            induction k9 using Nat.strongRecOn with
            | _ k9 ih51 =>
              intro a m i e hi hae hei ham hmb hv hk51
              refine j_iload (pc' := 53) (z := i) dX12_mechanic_51 rfl rfl ?_
              refine j_bipush (pc' := 55) dX12_mechanic_53 rfl (by decide) ?_
              refine j_icmp_ge (tgt := 115) (pc' := 58) dX12_mechanic_55 (by decide) rfl (by omega) (by omega) (fun h55 => ?_) (fun h55 => ?_)
              · refine j_bipush (pc' := 117) dX12_mechanic_115 rfl (by decide) ?_
                exact j_iret dX12_mechanic_117 rfl (jM_of (by unfold mechA; rw [if_pos (by omega), hv, mcI_z (by omega), if_pos rfl]) hT)
              · refine j_lload (pc' := 60) (z := a) dX12_mechanic_58 rfl rfl ?_
                refine j_lload (pc' := 62) (z := m) dX12_mechanic_60 rfl rfl ?_
                refine j_lsub (pc' := 63) dX12_mechanic_62 rfl ?_
                refine j_ldc2 (pc' := 66) (n := 10) dX12_mechanic_63 rfl k_Mod_209 (by decide) ?_
                refine j_lmul (pc' := 67) dX12_mechanic_66 rfl ?_
                refine j_iload_n (pc' := 68) (z := h) dX12_mechanic_67 rfl rfl ?_
                have hbd := mc_bd (s := s) (h := h) (a := a) (m := m) (by omega) (by omega) (by omega) (by omega)
                refine j_i2l (pc' := 69) dX12_mechanic_68 rfl (by omega) ?_
                refine j_lload (pc' := 71) (z := a) dX12_mechanic_69 rfl rfl ?_
                refine j_lmul (pc' := 72) dX12_mechanic_71 rfl ?_
                refine j_lcmp (pc' := 73) dX12_mechanic_72 rfl (by omega) (by omega) ?_
                have hlb := lcI_bd (a := (a - m) * 10) (b := h * a)
                refine j_if_lt (tgt := 91) (pc' := 76) dX12_mechanic_73 (by decide) rfl (by omega) (fun h73 => ?_) (fun h73 => ?_)
                · refine j_lload (pc' := 93) (z := a) dX12_mechanic_91 rfl rfl ?_
                  refine j_ldc2 (pc' := 96) (n := 10) dX12_mechanic_93 rfl k_Mod_209 (by decide) ?_
                  refine j_lmul (pc' := 97) dX12_mechanic_96 rfl ?_
                  refine j_lstore (pc' := 99) (L' := [some (aR 53), some (aI s), some (aI h), some (aI c), some (aI x), some (aL (a * 10)), none, some (aL m), none, some (aI i)]) dX12_mechanic_97 rfl (by decide) rfl ?_
                  refine j_lload (pc' := 101) (z := m) dX12_mechanic_99 rfl rfl ?_
                  refine j_bipush (pc' := 103) dX12_mechanic_101 rfl (by decide) ?_
                  refine j_iload_n (pc' := 104) (z := s) dX12_mechanic_103 rfl rfl ?_
                  refine j_isub (pc' := 105) dX12_mechanic_104 rfl ?_
                  refine j_i2l (pc' := 106) dX12_mechanic_105 rfl (by omega) ?_
                  refine j_lmul (pc' := 107) dX12_mechanic_106 rfl ?_
                  refine j_lstore (pc' := 109) (L' := [some (aR 53), some (aI s), some (aI h), some (aI c), some (aI x), some (aL (a * 10)), none, some (aL (m * (10 - s))), none, some (aI i)]) dX12_mechanic_107 rfl (by decide) rfl ?_
                  refine j_iinc (pc' := 112) (z := i) (L' := [some (aR 53), some (aI s), some (aI h), some (aI c), some (aI x), some (aL (a * 10)), none, some (aL (m * (10 - s))), none, some (aI (i + 1))]) dX12_mechanic_109 rfl (by decide) rfl rfl rfl ?_
                  refine j_goto (pc' := 51) dX12_mechanic_112 (by decide) ?_
                  exact ih51 _ (by omega) (a * 10) (m * (10 - s)) (i + 1) (e + 1) (by omega) (by rw [hae, Int.pow_succ]) (by omega) (by refine ⟨by omega, fun h9 => ?_⟩; have := pow10_le (e := e) (by omega); rw [hae]; omega) (by omega) (by rw [hv, mcI_n (by omega) (by have := lcI_lt (a := (a - m) * 10) (b := h * a); omega)]) rfl
                · refine j_iload (pc' := 78) (z := x) dX12_mechanic_76 rfl rfl ?_
                  refine j_if_ne (tgt := 86) (pc' := 81) dX12_mechanic_78 (by decide) rfl (by omega) (fun h78 => ?_) (fun h78 => ?_)
                  · refine j_iload (pc' := 88) (z := i) dX12_mechanic_86 rfl rfl ?_
                    refine j_iload_n (pc' := 89) (z := c) dX12_mechanic_88 rfl rfl ?_
                    refine j_imul (pc' := 90) dX12_mechanic_89 rfl ?_
                    exact j_iret dX12_mechanic_90 rfl (jM_of (by have hz : mcI s h 10 0 1 1 = i := (by rw [hv, mcI_y (by omega) (by have := lcI_lt (a := (a - m) * 10) (b := h * a); omega)]); unfold mechA; rw [if_pos (by omega), hz, if_neg (by omega)]; (first | rw [if_pos (by omega)] | rw [if_neg (by omega)])) hT)
                  · refine j_iload (pc' := 83) (z := i) dX12_mechanic_81 rfl rfl ?_
                    refine j_goto (pc' := 90) dX12_mechanic_83 (by decide) ?_
                    exact j_iret dX12_mechanic_90 rfl (jM_of (by have hz : mcI s h 10 0 1 1 = i := (by rw [hv, mcI_y (by omega) (by have := lcI_lt (a := (a - m) * 10) (b := h * a); omega)]); unfold mechA; rw [if_pos (by omega), hz, if_neg (by omega)]; (first | rw [if_pos (by omega)] | rw [if_neg (by omega)])) hT)
          exact lp51 _ 1 1 0 0 (by omega) (by rfl) (by rfl) (by omega) (by omega) (by rfl) rfl
        · refine j_iconst (pc' := 41) dX12_mechanic_40 rfl ?_
          exact j_iret dX12_mechanic_41 rfl (jM_of (by unfold mechA; rw [if_neg (by omega)]) hT)
