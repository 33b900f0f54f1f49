theorem sab_bd {D : Int → Int → Int} {n mi set seat pace : Int} (hB : CarOK D n mi) : 0 ≤ sab D n set seat pace ∧ sab D n set seat pace ≤ 147 := by
  obtain ⟨hn, hD, hs0, hs1, hs2, hs3⟩ := hB
  have h := sumI_bd (f := fun p => if bt set p = 0 then snd D p seat pace else 0) (n := n) (lo := 0) (hi := 21) hn.1 (fun k h1 h2 => by
    have := snd_bd (D := D) (p := k) (seat := seat) (pace := pace) (hD k h1 (by omega)).2.1 hs2.1
    split <;> omega)
  unfold sab
  omega
set_option maxRecDepth 100000 in
set_option maxHeartbeats 4000000 in
theorem c_Car_has_w {l : Launch} {w : AW} {c : Nat} {D : Int → Int → Int} {n mi : Int} {p : Int} (hO : w c = eO 0 [aR 1, aR (c + 1), aR (c + 2), aR (c + 3), aR (c + 4), aR (c + 5), aR (c + 6), aR (c + 7), aI n, aI mi]) (hB : CarOK D n mi) (hc : 10 ≤ c ∧ c + 8 ≤ 68) (hp : inI p) : Call l m_Car_has false 68 68 [aR c, aI p] w (rt (some (aB (0 ≤ p ∧ p < n))) w) := by
  obtain ⟨hn, hD, hs0, hs1, hs2, hs3⟩ := hB
  refine Call.of (L := [some (aR c), some (aI p)]) rfl (Nat.le_of_ble_eq_true rfl) rfl (fun G ad => ?_)
  refine j_iload_n (pc' := 1) (z := p) dX0_has_0 rfl rfl ?_
  refine j_if_lt (tgt := 16) (pc' := 4) dX0_has_1 (by decide) rfl (by omega) (fun h1 => ?_) (fun h1 => ?_)
  · refine j_iconst (pc' := 17) dX0_has_16 rfl ?_
    exact j_zret0 dX0_has_17 rfl (rt_b0 (by omega))
  · refine j_iload_n (pc' := 5) (z := p) dX0_has_4 rfl rfl ?_
    refine j_aload_n (pc' := 6) (z := c) dX0_has_5 rfl rfl ?_
    refine j_get (pc' := 9) (v := aI n) dX0_has_6 rfl f_Car_37 (by omega) hO rfl ?_
    refine j_icmp_ge (tgt := 16) (pc' := 12) dX0_has_9 (by decide) rfl (by omega) (by omega) (fun h9 => ?_) (fun h9 => ?_)
    · refine j_iconst (pc' := 17) dX0_has_16 rfl ?_
      exact j_zret0 dX0_has_17 rfl (rt_b0 (by omega))
    · refine j_iconst (pc' := 13) dX0_has_12 rfl ?_
      refine j_goto (pc' := 17) dX0_has_13 (by decide) ?_
      exact j_zret1 dX0_has_17 rfl (rt_b1 (by omega))
theorem c_Car_has {l : Launch} {w : AW} {c : Nat} {D : Int → Int → Int} {n mi p : Int} (hC : CarAt w c D n mi) (hB : CarOK D n mi) (hc : 10 ≤ c ∧ c + 8 ≤ 68) (hp : inI p) : Call l m_Car_has false 68 68 [aR c, aI p] w (rt (some (aB (0 ≤ p ∧ p < n))) w) := c_Car_has_w hC.1 hB hc hp
set_option maxRecDepth 100000 in
set_option maxHeartbeats 4000000 in
theorem c_Car_kindOf_w {l : Launch} {w : AW} {c : Nat} {D : Int → Int → Int} {n mi : Int} {p : Int} (hO : w c = eO 0 [aR 1, aR (c + 1), aR (c + 2), aR (c + 3), aR (c + 4), aR (c + 5), aR (c + 6), aR (c + 7), aI n, aI mi]) (a1 : w (c + 1) = eI 7 (D 0)) (kk : w 1 = eR 2 8 kref) (hB : CarOK D n mi) (hc : 10 ≤ c ∧ c + 8 ≤ 68) (hp : 0 ≤ p ∧ p < n) : Call l m_Car_kindOf false 68 68 [aR c, aI p] w (rt (some (aR (2 + (D 0 p).toNat))) w) := by
  have hB0 := hB
  obtain ⟨hn, hD, hs0, hs1, hs2, hs3⟩ := hB
  have hDp := hD p (by omega) (by omega)
  refine Call.of (L := [some (aR c), some (aI p)]) rfl (Nat.le_of_ble_eq_true rfl) rfl (fun G ad => ?_)
  refine j_aload_n (pc' := 1) (z := c) dX0_kindOf_0 rfl rfl ?_
  refine j_get (pc' := 4) (v := aR 1) dX0_kindOf_1 rfl f_Car_9 (by omega) hO rfl ?_
  refine j_aload_n (pc' := 5) (z := c) dX0_kindOf_4 rfl rfl ?_
  refine j_iload_n (pc' := 6) (z := p) dX0_kindOf_5 rfl rfl ?_
  refine j_callV (pc' := 9) (as := [aI p]) (rest := [aR 1]) dX0_kindOf_6 rfl s_Car_58 (c_Car_has_w hO hB0 hc (by omega)) (by omega) hO rfl rfl rfl rfl (jdet (st' := [aB (0 ≤ p ∧ p < n), aR 1]) rfl ?_)
  refine j_ifb_eq (tgt := 21) (pc' := 12) dX0_kindOf_9 (by decide) rfl (fun h9 => ?_) (fun h9 => ?_)
  · exact absurd hp h9
  · refine j_aload_n (pc' := 13) (z := c) dX0_kindOf_12 rfl rfl ?_
    refine j_get (pc' := 16) (v := aR (c + 1)) dX0_kindOf_13 rfl f_Car_15 (by omega) hO rfl ?_
    refine j_iload_n (pc' := 17) (z := p) dX0_kindOf_16 rfl rfl ?_
    refine j_iald (pc' := 18) dX0_kindOf_17 rfl (by omega) a1 (by omega) (by decide) ?_
    refine j_goto (pc' := 22) dX0_kindOf_18 (by decide) ?_
    refine j_aald (pc' := 23) (r := (2 + (D 0 p).toNat)) (Cn := "RattleAtFifty$Part") dX0_kindOf_22 rfl (by omega) kk rfl (by omega) (by decide) rfl ?_
    exact j_aret dX0_kindOf_23 rfl rt_rfl
theorem c_Car_kindOf {l : Launch} {w : AW} {c : Nat} {D : Int → Int → Int} {n mi p : Int} (hC : CarAt w c D n mi) (hB : CarOK D n mi) (hK : KindsAt w) (hc : 10 ≤ c ∧ c + 8 ≤ 68) (hp : 0 ≤ p ∧ p < n) : Call l m_Car_kindOf false 68 68 [aR c, aI p] w (rt (some (aR (2 + (D 0 p).toNat))) w) := c_Car_kindOf_w hC.1 hC.2.1 hK.1 hB hc hp
set_option maxRecDepth 100000 in
set_option maxHeartbeats 4000000 in
theorem jk_Car_loudNow_37 {l : Launch} {ad : Nat → Nat} {G : JG} {X : List (Nat × Nat × (Int → Int))} {Z : JZ} {L : List (Option AV)} {rest : List AV} {w : AW} {k f pace cold load : Int} (hK : KindsAt w) (hk : 0 ≤ k ∧ k ≤ 7) (hf : 0 ≤ f ∧ f ≤ 9) (hp9 : 0 ≤ pace ∧ pace ≤ 1000) (hcd : 0 ≤ cold ∧ cold ≤ 9) (hld : 0 ≤ load ∧ load ≤ 5) (hcat : (rest.map jcat).sum ≤ 8) (kont : J l m_Car_loudNow ad G X false Z 68 0 0 40 L (aI (loud k f pace cold load) :: rest) w) : J l m_Car_loudNow ad G X false Z 68 0 0 37 L (aI load :: aI cold :: aI pace :: aI f :: aR (2 + k.toNat) :: rest) w := by
  obtain ⟨kk, t0, t1, t2, t3, t4, t5, t6, t7⟩ := hK
  rcases (show k = 0 ∨ k = 1 ∨ k = 2 ∨ k = 3 ∨ k = 4 ∨ k = 5 ∨ k = 6 ∨ k = 7 by omega) with rfl | rfl | rfl | rfl | rfl | rfl | rfl | rfl
  · refine j_callO (pc' := 40) (q := 2) (as := [aI f, aI pace, aI cold, aI load]) (rest := rest) (Mx := m_Part_loudness) dX0_loudNow_37 rfl s_Car_98_Part s_Car_98_Part (c_Part_loudness hp9) (by decide) t0 rfl rfl rfl (by have h9 : decide ((rest.map jcat).sum ≤ 8) = true := decide_eq_true hcat; simp only [rmB, h9]; rfl) (jdet rfl ?_)
    exact j_top (by simp [loud]) kont
  · refine j_callO (pc' := 40) (q := 3) (as := [aI f, aI pace, aI cold, aI load]) (rest := rest) (Mx := m_Part_loudness) dX0_loudNow_37 rfl s_Car_98_Loose s_Car_98_Part (c_Loose_loudness hp9) (by decide) t1 rfl rfl rfl (by have h9 : decide ((rest.map jcat).sum ≤ 8) = true := decide_eq_true hcat; simp only [rmB, h9]; rfl) (jdet rfl ?_)
    exact j_top (by simp [loud]) kont
  · refine j_callO (pc' := 40) (q := 4) (as := [aI f, aI pace, aI cold, aI load]) (rest := rest) (Mx := m_Part_loudness) dX0_loudNow_37 rfl s_Car_98_Tinny s_Car_98_Part (c_Tinny_loudness (by decide) t2 rfl hp9) (by decide) t2 rfl rfl rfl (by have h9 : decide ((rest.map jcat).sum ≤ 8) = true := decide_eq_true hcat; simp only [rmB, h9]; rfl) (jdet rfl ?_)
    exact j_top (by simp [loud]) kont
  · refine j_callO (pc' := 40) (q := 5) (as := [aI f, aI pace, aI cold, aI load]) (rest := rest) (Mx := m_Part_loudness) dX0_loudNow_37 rfl s_Car_98_Frosty s_Car_98_Part (c_Frosty_loudness (by decide) t3 rfl hp9 hcd) (by decide) t3 rfl rfl rfl (by have h9 : decide ((rest.map jcat).sum ≤ 8) = true := decide_eq_true hcat; simp only [rmB, h9]; rfl) (jdet rfl ?_)
    exact j_top (by simp [loud]) kont
  · refine j_callO (pc' := 40) (q := 6) (as := [aI f, aI pace, aI cold, aI load]) (rest := rest) (Mx := m_Part_loudness) dX0_loudNow_37 rfl s_Car_98_Heavy s_Car_98_Part (c_Heavy_loudness (by decide) t4 rfl hp9 hf hld) (by decide) t4 rfl rfl rfl (by have h9 : decide ((rest.map jcat).sum ≤ 8) = true := decide_eq_true hcat; simp only [rmB, h9]; rfl) (jdet rfl ?_)
    exact j_top (by simp [loud]) kont
  · refine j_callO (pc' := 40) (q := 7) (as := [aI f, aI pace, aI cold, aI load]) (rest := rest) (Mx := m_Part_loudness) dX0_loudNow_37 rfl s_Car_98_Doubled s_Car_98_Part (c_Doubled_loudness (by decide) t5 rfl hp9 hf) (by decide) t5 rfl rfl rfl (by have h9 : decide ((rest.map jcat).sum ≤ 8) = true := decide_eq_true hcat; simp only [rmB, h9]; rfl) (jdet rfl ?_)
    exact j_top (by simp [loud]) kont
  · refine j_callO (pc' := 40) (q := 8) (as := [aI f, aI pace, aI cold, aI load]) (rest := rest) (Mx := m_Part_loudness) dX0_loudNow_37 rfl s_Car_98_Dead s_Car_98_Part c_Dead_loudness (by decide) t6 rfl rfl rfl (by have h9 : decide ((rest.map jcat).sum ≤ 8) = true := decide_eq_true hcat; simp only [rmB, h9]; rfl) (jdet rfl ?_)
    exact j_top (by simp [loud]) kont
  · refine j_callO (pc' := 40) (q := 9) (as := [aI f, aI pace, aI cold, aI load]) (rest := rest) (Mx := m_Part_loudness) dX0_loudNow_37 rfl s_Car_98_Deep s_Car_98_Part (c_Deep_loudness (by decide) t7 rfl hp9 hf hld) (by decide) t7 rfl rfl rfl (by have h9 : decide ((rest.map jcat).sum ≤ 8) = true := decide_eq_true hcat; simp only [rmB, h9]; rfl) (jdet rfl ?_)
    exact j_top (by simp [loud]) kont
set_option maxRecDepth 100000 in
set_option maxHeartbeats 4000000 in
theorem c_Car_loudNow {l : Launch} {w : AW} {c : Nat} {D : Int → Int → Int} {n mi : Int} {p : Int} (hC : CarAt w c D n mi) (hB : CarOK D n mi) (hK : KindsAt w) (hc : 10 ≤ c ∧ c + 8 ≤ 68) (hp : 0 ≤ p ∧ p < n) : Call l m_Car_loudNow false 68 68 [aR c, aI p] w (rt (some (aI (loud (D 0 p) (D 1 p) (D 6 0) (D 6 1) (D 6 2)))) w) := by
  have hC0 := hC
  have hB0 := hB
  have hK0 := hK
  obtain ⟨hO, a1, a2, a3, a4, a5, a6, a7⟩ := hC
  obtain ⟨hn, hD, hs0, hs1, hs2, hs3⟩ := hB
  obtain ⟨kk, t0, t1, t2, t3, t4, t5, t6, t7⟩ := hK
  have hDp := hD p (by omega) (by omega)
  refine Call.of (L := [some (aR c), some (aI p)]) rfl (Nat.le_of_ble_eq_true rfl) rfl (fun G ad => ?_)
  refine j_aload_n (pc' := 1) (z := c) dX0_loudNow_0 rfl rfl ?_
  refine j_iload_n (pc' := 2) (z := p) dX0_loudNow_1 rfl rfl ?_
  refine j_callV (pc' := 5) (as := [aI p]) (rest := []) dX0_loudNow_2 rfl s_Car_58 (c_Car_has hC0 hB0 hc (by omega)) (by omega) hO rfl rfl rfl rfl (jdet (st' := [aB (0 ≤ p ∧ p < n)]) rfl ?_)
  refine j_ifb_eq (tgt := 43) (pc' := 8) dX0_loudNow_5 (by decide) rfl (fun h5 => ?_) (fun h5 => ?_)
  · exact absurd hp h5
  · refine j_aload_n (pc' := 9) (z := c) dX0_loudNow_8 rfl rfl ?_
    refine j_iload_n (pc' := 10) (z := p) dX0_loudNow_9 rfl rfl ?_
    refine j_callV (pc' := 13) (as := [aI p]) (rest := []) dX0_loudNow_10 rfl s_Car_61 (c_Car_kindOf hC0 hB0 hK0 hc (p := p) (by omega)) (by omega) hO rfl rfl rfl rfl (jdet (st' := [aR (2 + (D 0 p).toNat)]) rfl ?_)
    refine j_aload_n (pc' := 14) (z := c) dX0_loudNow_13 rfl rfl ?_
    refine j_get (pc' := 17) (v := aR (c + 2)) dX0_loudNow_14 rfl f_Car_19 (by omega) hO rfl ?_
    refine j_iload_n (pc' := 18) (z := p) dX0_loudNow_17 rfl rfl ?_
    refine j_iald (pc' := 19) dX0_loudNow_18 rfl (by omega) a2 (by omega) (by decide) ?_
    refine j_aload_n (pc' := 20) (z := c) dX0_loudNow_19 rfl rfl ?_
    refine j_get (pc' := 23) (v := aR (c + 7)) dX0_loudNow_20 rfl f_Car_34 (by omega) hO rfl ?_
    refine j_iconst (pc' := 24) dX0_loudNow_23 rfl ?_
    refine j_iald (pc' := 25) dX0_loudNow_24 rfl (by omega) a7 (by omega) (by decide) ?_
    refine j_aload_n (pc' := 26) (z := c) dX0_loudNow_25 rfl rfl ?_
    refine j_get (pc' := 29) (v := aR (c + 7)) dX0_loudNow_26 rfl f_Car_34 (by omega) hO rfl ?_
    refine j_iconst (pc' := 30) dX0_loudNow_29 rfl ?_
    refine j_iald (pc' := 31) dX0_loudNow_30 rfl (by omega) a7 (by omega) (by decide) ?_
    refine j_aload_n (pc' := 32) (z := c) dX0_loudNow_31 rfl rfl ?_
    refine j_get (pc' := 35) (v := aR (c + 7)) dX0_loudNow_32 rfl f_Car_34 (by omega) hO rfl ?_
    refine j_iconst (pc' := 36) dX0_loudNow_35 rfl ?_
    refine j_iald (pc' := 37) dX0_loudNow_36 rfl (by omega) a7 (by omega) (by decide) ?_
    refine jk_Car_loudNow_37 (k := D 0 p) (f := D 1 p) (pace := D 6 0) (cold := D 6 1) (load := D 6 2) hK0 (by omega) (by omega) (by omega) (by omega) (by omega) (Nat.le_of_ble_eq_true rfl) ?_
    refine j_goto (pc' := 44) dX0_loudNow_40 (by decide) ?_
    exact j_iret dX0_loudNow_44 rfl (rt_eq (by rfl))
set_option maxRecDepth 100000 in
set_option maxHeartbeats 4000000 in
theorem jk_Car_seconds_19 {l : Launch} {ad : Nat → Nat} {G : JG} {X : List (Nat × Nat × (Int → Int))} {Z : JZ} {L : List (Option AV)} {rest : List AV} {w : AW} {k f : Int} (hK : KindsAt w) (hk : 0 ≤ k ∧ k ≤ 7)  (hcat : (rest.map jcat).sum ≤ 8) (kont : J l m_Car_seconds ad G X false Z 68 0 0 22 L (aI (secs k f) :: rest) w) : J l m_Car_seconds ad G X false Z 68 0 0 19 L (aI f :: aR (2 + k.toNat) :: rest) w := by
  obtain ⟨kk, t0, t1, t2, t3, t4, t5, t6, t7⟩ := hK
  rcases (show k = 0 ∨ k = 1 ∨ k = 2 ∨ k = 3 ∨ k = 4 ∨ k = 5 ∨ k = 6 ∨ k = 7 by omega) with rfl | rfl | rfl | rfl | rfl | rfl | rfl | rfl
  · refine j_callO (pc' := 22) (q := 2) (as := [aI f]) (rest := rest) (Mx := m_Part_secondsToHold) dX0_seconds_19 rfl s_Car_65_Part s_Car_65_Part c_Part_secondsToHold (by decide) t0 rfl rfl rfl (by have h9 : decide ((rest.map jcat).sum ≤ 8) = true := decide_eq_true hcat; simp only [rmB, h9]; rfl) (jdet rfl ?_)
    exact j_top (by simp [secs]) kont
  · refine j_callO (pc' := 22) (q := 3) (as := [aI f]) (rest := rest) (Mx := m_Part_secondsToHold) dX0_seconds_19 rfl s_Car_65_Loose s_Car_65_Part (c_Loose_secondsToHold (by decide) t1 rfl) (by decide) t1 rfl rfl rfl (by have h9 : decide ((rest.map jcat).sum ≤ 8) = true := decide_eq_true hcat; simp only [rmB, h9]; rfl) (jdet rfl ?_)
    exact j_top (by simp [secs]) kont
  · refine j_callO (pc' := 22) (q := 4) (as := [aI f]) (rest := rest) (Mx := m_Part_secondsToHold) dX0_seconds_19 rfl s_Car_65_Tinny s_Car_65_Part (c_Tinny_secondsToHold (by decide) t2 rfl) (by decide) t2 rfl rfl rfl (by have h9 : decide ((rest.map jcat).sum ≤ 8) = true := decide_eq_true hcat; simp only [rmB, h9]; rfl) (jdet rfl ?_)
    exact j_top (by simp [secs]) kont
  · refine j_callO (pc' := 22) (q := 5) (as := [aI f]) (rest := rest) (Mx := m_Part_secondsToHold) dX0_seconds_19 rfl s_Car_65_Frosty s_Car_65_Part (c_Frosty_secondsToHold (by decide) t3 rfl) (by decide) t3 rfl rfl rfl (by have h9 : decide ((rest.map jcat).sum ≤ 8) = true := decide_eq_true hcat; simp only [rmB, h9]; rfl) (jdet rfl ?_)
    exact j_top (by simp [secs]) kont
  · refine j_callO (pc' := 22) (q := 6) (as := [aI f]) (rest := rest) (Mx := m_Part_secondsToHold) dX0_seconds_19 rfl s_Car_65_Heavy s_Car_65_Part (c_Heavy_secondsToHold (by decide) t4 rfl) (by decide) t4 rfl rfl rfl (by have h9 : decide ((rest.map jcat).sum ≤ 8) = true := decide_eq_true hcat; simp only [rmB, h9]; rfl) (jdet rfl ?_)
    exact j_top (by simp [secs]) kont
  · refine j_callO (pc' := 22) (q := 7) (as := [aI f]) (rest := rest) (Mx := m_Part_secondsToHold) dX0_seconds_19 rfl s_Car_65_Doubled s_Car_65_Part (c_Doubled_secondsToHold (by decide) t5 rfl) (by decide) t5 rfl rfl rfl (by have h9 : decide ((rest.map jcat).sum ≤ 8) = true := decide_eq_true hcat; simp only [rmB, h9]; rfl) (jdet rfl ?_)
    exact j_top (by simp [secs]) kont
  · refine j_callO (pc' := 22) (q := 8) (as := [aI f]) (rest := rest) (Mx := m_Part_secondsToHold) dX0_seconds_19 rfl s_Car_65_Dead s_Car_65_Part c_Part_secondsToHold (by decide) t6 rfl rfl rfl (by have h9 : decide ((rest.map jcat).sum ≤ 8) = true := decide_eq_true hcat; simp only [rmB, h9]; rfl) (jdet rfl ?_)
    exact j_top (by simp [secs]) kont
  · refine j_callO (pc' := 22) (q := 9) (as := [aI f]) (rest := rest) (Mx := m_Part_secondsToHold) dX0_seconds_19 rfl s_Car_65_Deep s_Car_65_Part (c_Heavy_secondsToHold (by decide) t7 rfl) (by decide) t7 rfl rfl rfl (by have h9 : decide ((rest.map jcat).sum ≤ 8) = true := decide_eq_true hcat; simp only [rmB, h9]; rfl) (jdet rfl ?_)
    exact j_top (by simp [secs]) kont
set_option maxRecDepth 100000 in
set_option maxHeartbeats 4000000 in
theorem c_Car_seconds {l : Launch} {w : AW} {c : Nat} {D : Int → Int → Int} {n mi : Int} {p : Int} (hC : CarAt w c D n mi) (hB : CarOK D n mi) (hK : KindsAt w) (hc : 10 ≤ c ∧ c + 8 ≤ 68) (hp : 0 ≤ p ∧ p < n) : Call l m_Car_seconds false 68 68 [aR c, aI p] w (rt (some (aI (secs (D 0 p) (D 1 p)))) w) := by
  have hC0 := hC
  have hB0 := hB
  have hK0 := hK
  obtain ⟨hO, a1, a2, a3, a4, a5, a6, a7⟩ := hC
  obtain ⟨hn, hD, hs0, hs1, hs2, hs3⟩ := hB
  obtain ⟨kk, t0, t1, t2, t3, t4, t5, t6, t7⟩ := hK
  have hDp := hD p (by omega) (by omega)
  refine Call.of (L := [some (aR c), some (aI p)]) rfl (Nat.le_of_ble_eq_true rfl) rfl (fun G ad => ?_)
  refine j_aload_n (pc' := 1) (z := c) dX0_seconds_0 rfl rfl ?_
  refine j_iload_n (pc' := 2) (z := p) dX0_seconds_1 rfl rfl ?_
  refine j_callV (pc' := 5) (as := [aI p]) (rest := []) dX0_seconds_2 rfl s_Car_58 (c_Car_has hC0 hB0 hc (by omega)) (by omega) hO rfl rfl rfl rfl (jdet (st' := [aB (0 ≤ p ∧ p < n)]) rfl ?_)
  refine j_ifb_eq (tgt := 25) (pc' := 8) dX0_seconds_5 (by decide) rfl (fun h5 => ?_) (fun h5 => ?_)
  · exact absurd hp h5
  · refine j_aload_n (pc' := 9) (z := c) dX0_seconds_8 rfl rfl ?_
    refine j_iload_n (pc' := 10) (z := p) dX0_seconds_9 rfl rfl ?_
    refine j_callV (pc' := 13) (as := [aI p]) (rest := []) dX0_seconds_10 rfl s_Car_61 (c_Car_kindOf hC0 hB0 hK0 hc (p := p) (by omega)) (by omega) hO rfl rfl rfl rfl (jdet (st' := [aR (2 + (D 0 p).toNat)]) rfl ?_)
    refine j_aload_n (pc' := 14) (z := c) dX0_seconds_13 rfl rfl ?_
    refine j_get (pc' := 17) (v := aR (c + 2)) dX0_seconds_14 rfl f_Car_19 (by omega) hO rfl ?_
    refine j_iload_n (pc' := 18) (z := p) dX0_seconds_17 rfl rfl ?_
    refine j_iald (pc' := 19) dX0_seconds_18 rfl (by omega) a2 (by omega) (by decide) ?_
    refine jk_Car_seconds_19 (k := D 0 p) (f := D 1 p) hK0 (by omega)  (Nat.le_of_ble_eq_true rfl) ?_
    refine j_goto (pc' := 26) dX0_seconds_22 (by decide) ?_
    exact j_iret dX0_seconds_26 rfl (rt_eq (by rfl))
set_option maxRecDepth 100000 in
set_option maxHeartbeats 4000000 in
theorem jk_Car_loosening_5 {l : Launch} {ad : Nat → Nat} {G : JG} {X : List (Nat × Nat × (Int → Int))} {Z : JZ} {L : List (Option AV)} {rest : List AV} {w : AW} {k : Int} (hK : KindsAt w) (hk : 0 ≤ k ∧ k ≤ 7)  (hcat : (rest.map jcat).sum ≤ 8) (kont : J l m_Car_loosening ad G X false Z 68 0 0 8 L (aI (loos k) :: rest) w) : J l m_Car_loosening ad G X false Z 68 0 0 5 L (aR (2 + k.toNat) :: rest) w := by
  obtain ⟨kk, t0, t1, t2, t3, t4, t5, t6, t7⟩ := hK
  rcases (show k = 0 ∨ k = 1 ∨ k = 2 ∨ k = 3 ∨ k = 4 ∨ k = 5 ∨ k = 6 ∨ k = 7 by omega) with rfl | rfl | rfl | rfl | rfl | rfl | rfl | rfl
  · refine j_callO (pc' := 8) (q := 2) (as := []) (rest := rest) (Mx := m_Part_loosensBy) dX0_loosening_5 rfl s_Car_71_Part s_Car_71_Part c_Part_loosensBy (by decide) t0 rfl rfl rfl (by have h9 : decide ((rest.map jcat).sum ≤ 8) = true := decide_eq_true hcat; simp only [rmB, h9]; rfl) (jdet rfl ?_)
    exact j_top (by simp [loos]) kont
  · refine j_callO (pc' := 8) (q := 3) (as := []) (rest := rest) (Mx := m_Part_loosensBy) dX0_loosening_5 rfl s_Car_71_Loose s_Car_71_Part (c_Loose_loosensBy (by decide) t1 rfl) (by decide) t1 rfl rfl rfl (by have h9 : decide ((rest.map jcat).sum ≤ 8) = true := decide_eq_true hcat; simp only [rmB, h9]; rfl) (jdet rfl ?_)
    exact j_top (by simp [loos]) kont
  · refine j_callO (pc' := 8) (q := 4) (as := []) (rest := rest) (Mx := m_Part_loosensBy) dX0_loosening_5 rfl s_Car_71_Tinny s_Car_71_Part c_Part_loosensBy (by decide) t2 rfl rfl rfl (by have h9 : decide ((rest.map jcat).sum ≤ 8) = true := decide_eq_true hcat; simp only [rmB, h9]; rfl) (jdet rfl ?_)
    exact j_top (by simp [loos]) kont
  · refine j_callO (pc' := 8) (q := 5) (as := []) (rest := rest) (Mx := m_Part_loosensBy) dX0_loosening_5 rfl s_Car_71_Frosty s_Car_71_Part (c_Loose_loosensBy (by decide) t3 rfl) (by decide) t3 rfl rfl rfl (by have h9 : decide ((rest.map jcat).sum ≤ 8) = true := decide_eq_true hcat; simp only [rmB, h9]; rfl) (jdet rfl ?_)
    exact j_top (by simp [loos]) kont
  · refine j_callO (pc' := 8) (q := 6) (as := []) (rest := rest) (Mx := m_Part_loosensBy) dX0_loosening_5 rfl s_Car_71_Heavy s_Car_71_Part c_Part_loosensBy (by decide) t4 rfl rfl rfl (by have h9 : decide ((rest.map jcat).sum ≤ 8) = true := decide_eq_true hcat; simp only [rmB, h9]; rfl) (jdet rfl ?_)
    exact j_top (by simp [loos]) kont
  · refine j_callO (pc' := 8) (q := 7) (as := []) (rest := rest) (Mx := m_Part_loosensBy) dX0_loosening_5 rfl s_Car_71_Doubled s_Car_71_Part c_Part_loosensBy (by decide) t5 rfl rfl rfl (by have h9 : decide ((rest.map jcat).sum ≤ 8) = true := decide_eq_true hcat; simp only [rmB, h9]; rfl) (jdet rfl ?_)
    exact j_top (by simp [loos]) kont
  · refine j_callO (pc' := 8) (q := 8) (as := []) (rest := rest) (Mx := m_Part_loosensBy) dX0_loosening_5 rfl s_Car_71_Dead s_Car_71_Part c_Dead_loosensBy (by decide) t6 rfl rfl rfl (by have h9 : decide ((rest.map jcat).sum ≤ 8) = true := decide_eq_true hcat; simp only [rmB, h9]; rfl) (jdet rfl ?_)
    exact j_top (by simp [loos]) kont
  · refine j_callO (pc' := 8) (q := 9) (as := []) (rest := rest) (Mx := m_Part_loosensBy) dX0_loosening_5 rfl s_Car_71_Deep s_Car_71_Part c_Part_loosensBy (by decide) t7 rfl rfl rfl (by have h9 : decide ((rest.map jcat).sum ≤ 8) = true := decide_eq_true hcat; simp only [rmB, h9]; rfl) (jdet rfl ?_)
    exact j_top (by simp [loos]) kont
set_option maxRecDepth 100000 in
set_option maxHeartbeats 4000000 in
theorem c_Car_loosening {l : Launch} {w : AW} {c : Nat} {D : Int → Int → Int} {n mi : Int} {p : Int} (hC : CarAt w c D n mi) (hB : CarOK D n mi) (hK : KindsAt w) (hc : 10 ≤ c ∧ c + 8 ≤ 68) (hp : 0 ≤ p ∧ p < n) : Call l m_Car_loosening false 68 68 [aR c, aI p] w (rt (some (aI (loos (D 0 p)))) w) := by
  have hC0 := hC
  have hB0 := hB
  have hK0 := hK
  obtain ⟨hO, a1, a2, a3, a4, a5, a6, a7⟩ := hC
  obtain ⟨hn, hD, hs0, hs1, hs2, hs3⟩ := hB
  obtain ⟨kk, t0, t1, t2, t3, t4, t5, t6, t7⟩ := hK
  have hDp := hD p (by omega) (by omega)
  refine Call.of (L := [some (aR c), some (aI p)]) rfl (Nat.le_of_ble_eq_true rfl) rfl (fun G ad => ?_)
  refine j_aload_n (pc' := 1) (z := c) dX0_loosening_0 rfl rfl ?_
  refine j_iload_n (pc' := 2) (z := p) dX0_loosening_1 rfl rfl ?_
  refine j_callV (pc' := 5) (as := [aI p]) (rest := []) dX0_loosening_2 rfl s_Car_61 (c_Car_kindOf hC0 hB0 hK0 hc (p := p) (by omega)) (by omega) hO rfl rfl rfl rfl (jdet (st' := [aR (2 + (D 0 p).toNat)]) rfl ?_)
  refine jk_Car_loosening_5 (k := D 0 p) hK0 (by omega)  (Nat.le_of_ble_eq_true rfl) ?_
  exact j_iret dX0_loosening_8 rfl (rt_eq (by rfl))
set_option maxRecDepth 100000 in
set_option maxHeartbeats 4000000 in
theorem jk_Car_soundThere_43 {l : Launch} {ad : Nat → Nat} {G : JG} {X : List (Nat × Nat × (Int → Int))} {Z : JZ} {L : List (Option AV)} {rest : List AV} {w : AW} {k f pace cold load : Int} (hK : KindsAt w) (hk : 0 ≤ k ∧ k ≤ 7) (hf : 0 ≤ f ∧ f ≤ 9) (hp9 : 0 ≤ pace ∧ pace ≤ 1000) (hcd : 0 ≤ cold ∧ cold ≤ 9) (hld : 0 ≤ load ∧ load ≤ 5) (hcat : (rest.map jcat).sum ≤ 8) (kont : J l m_Car_soundThere ad G X false Z 68 0 0 46 L (aI (loud k f pace cold load) :: rest) w) : J l m_Car_soundThere ad G X false Z 68 0 0 43 L (aI load :: aI cold :: aI pace :: aI f :: aR (2 + k.toNat) :: rest) w := by
  obtain ⟨kk, t0, t1, t2, t3, t4, t5, t6, t7⟩ := hK
  rcases (show k = 0 ∨ k = 1 ∨ k = 2 ∨ k = 3 ∨ k = 4 ∨ k = 5 ∨ k = 6 ∨ k = 7 by omega) with rfl | rfl | rfl | rfl | rfl | rfl | rfl | rfl
  · refine j_callO (pc' := 46) (q := 2) (as := [aI f, aI pace, aI cold, aI load]) (rest := rest) (Mx := m_Part_loudness) dX0_soundThere_43 rfl s_Car_98_Part s_Car_98_Part (c_Part_loudness hp9) (by decide) t0 rfl rfl rfl (by have h9 : decide ((rest.map jcat).sum ≤ 8) = true := decide_eq_true hcat; simp only [rmB, h9]; rfl) (jdet rfl ?_)
    exact j_top (by simp [loud]) kont
  · refine j_callO (pc' := 46) (q := 3) (as := [aI f, aI pace, aI cold, aI load]) (rest := rest) (Mx := m_Part_loudness) dX0_soundThere_43 rfl s_Car_98_Loose s_Car_98_Part (c_Loose_loudness hp9) (by decide) t1 rfl rfl rfl (by have h9 : decide ((rest.map jcat).sum ≤ 8) = true := decide_eq_true hcat; simp only [rmB, h9]; rfl) (jdet rfl ?_)
    exact j_top (by simp [loud]) kont
  · refine j_callO (pc' := 46) (q := 4) (as := [aI f, aI pace, aI cold, aI load]) (rest := rest) (Mx := m_Part_loudness) dX0_soundThere_43 rfl s_Car_98_Tinny s_Car_98_Part (c_Tinny_loudness (by decide) t2 rfl hp9) (by decide) t2 rfl rfl rfl (by have h9 : decide ((rest.map jcat).sum ≤ 8) = true := decide_eq_true hcat; simp only [rmB, h9]; rfl) (jdet rfl ?_)
    exact j_top (by simp [loud]) kont
  · refine j_callO (pc' := 46) (q := 5) (as := [aI f, aI pace, aI cold, aI load]) (rest := rest) (Mx := m_Part_loudness) dX0_soundThere_43 rfl s_Car_98_Frosty s_Car_98_Part (c_Frosty_loudness (by decide) t3 rfl hp9 hcd) (by decide) t3 rfl rfl rfl (by have h9 : decide ((rest.map jcat).sum ≤ 8) = true := decide_eq_true hcat; simp only [rmB, h9]; rfl) (jdet rfl ?_)
    exact j_top (by simp [loud]) kont
  · refine j_callO (pc' := 46) (q := 6) (as := [aI f, aI pace, aI cold, aI load]) (rest := rest) (Mx := m_Part_loudness) dX0_soundThere_43 rfl s_Car_98_Heavy s_Car_98_Part (c_Heavy_loudness (by decide) t4 rfl hp9 hf hld) (by decide) t4 rfl rfl rfl (by have h9 : decide ((rest.map jcat).sum ≤ 8) = true := decide_eq_true hcat; simp only [rmB, h9]; rfl) (jdet rfl ?_)
    exact j_top (by simp [loud]) kont
  · refine j_callO (pc' := 46) (q := 7) (as := [aI f, aI pace, aI cold, aI load]) (rest := rest) (Mx := m_Part_loudness) dX0_soundThere_43 rfl s_Car_98_Doubled s_Car_98_Part (c_Doubled_loudness (by decide) t5 rfl hp9 hf) (by decide) t5 rfl rfl rfl (by have h9 : decide ((rest.map jcat).sum ≤ 8) = true := decide_eq_true hcat; simp only [rmB, h9]; rfl) (jdet rfl ?_)
    exact j_top (by simp [loud]) kont
  · refine j_callO (pc' := 46) (q := 8) (as := [aI f, aI pace, aI cold, aI load]) (rest := rest) (Mx := m_Part_loudness) dX0_soundThere_43 rfl s_Car_98_Dead s_Car_98_Part c_Dead_loudness (by decide) t6 rfl rfl rfl (by have h9 : decide ((rest.map jcat).sum ≤ 8) = true := decide_eq_true hcat; simp only [rmB, h9]; rfl) (jdet rfl ?_)
    exact j_top (by simp [loud]) kont
  · refine j_callO (pc' := 46) (q := 9) (as := [aI f, aI pace, aI cold, aI load]) (rest := rest) (Mx := m_Part_loudness) dX0_soundThere_43 rfl s_Car_98_Deep s_Car_98_Part (c_Deep_loudness (by decide) t7 rfl hp9 hf hld) (by decide) t7 rfl rfl rfl (by have h9 : decide ((rest.map jcat).sum ≤ 8) = true := decide_eq_true hcat; simp only [rmB, h9]; rfl) (jdet rfl ?_)
    exact j_top (by simp [loud]) kont
set_option maxRecDepth 100000 in
set_option maxHeartbeats 4000000 in
theorem c_Car_soundThere {l : Launch} {w : AW} {c : Nat} {D : Int → Int → Int} {n mi : Int} {p seat pace : Int} (hC : CarAt w c D n mi) (hB : CarOK D n mi) (hK : KindsAt w) (hc : 10 ≤ c ∧ c + 8 ≤ 68) (hp : 0 ≤ p ∧ p < n) (hse : 0 ≤ seat ∧ seat ≤ 3) (hpa : 0 ≤ pace ∧ pace ≤ 1000) : Call l m_Car_soundThere false 68 68 [aR c, aI p, aI seat, aI pace] w (rt (some (aI (snd D p seat pace))) w) := by
  have hC0 := hC
  have hB0 := hB
  have hK0 := hK
  obtain ⟨hO, a1, a2, a3, a4, a5, a6, a7⟩ := hC
  obtain ⟨hn, hD, hs0, hs1, hs2, hs3⟩ := hB
  obtain ⟨kk, t0, t1, t2, t3, t4, t5, t6, t7⟩ := hK
  have hDp := hD p (by omega) (by omega)
  have hlb := loud_bd (k := D 0 p) (pace := pace) (cold := D 6 1) (load := D 6 2) (by omega : 0 ≤ D 1 p ∧ D 1 p ≤ 9) (by omega)
  have hia : 0 ≤ iab (seat - D 2 p) ∧ iab (seat - D 2 p) ≤ 3 := by unfold iab; split <;> omega
  refine Call.of (L := [some (aR c), some (aI p), some (aI seat), some (aI pace), none]) rfl (Nat.le_of_ble_eq_true rfl) rfl (fun G ad => ?_)
  refine j_aload_n (pc' := 1) (z := c) dX0_soundThere_0 rfl rfl ?_
  refine j_iload_n (pc' := 2) (z := p) dX0_soundThere_1 rfl rfl ?_
  refine j_callV (pc' := 5) (as := [aI p]) (rest := []) dX0_soundThere_2 rfl s_Car_58 (c_Car_has hC0 hB0 hc (by omega)) (by omega) hO rfl rfl rfl rfl (jdet (st' := [aB (0 ≤ p ∧ p < n)]) rfl ?_)
  refine j_ifb_eq (tgt := 17) (pc' := 8) dX0_soundThere_5 (by decide) rfl (fun h5 => ?_) (fun h5 => ?_)
  · exact absurd hp h5
  · refine j_aload_n (pc' := 9) (z := c) dX0_soundThere_8 rfl rfl ?_
    refine j_get (pc' := 12) (v := aR (c + 5)) dX0_soundThere_9 rfl f_Car_28 (by omega) hO rfl ?_
    refine j_iload_n (pc' := 13) (z := p) dX0_soundThere_12 rfl rfl ?_
    refine j_iald (pc' := 14) dX0_soundThere_13 rfl (by omega) a5 (by omega) (by decide) ?_
    refine j_if_eq (tgt := 19) (pc' := 17) dX0_soundThere_14 (by decide) rfl (by omega) (fun h14 => ?_) (fun h14 => ?_)
    · refine j_aload_n (pc' := 20) (z := c) dX0_soundThere_19 rfl rfl ?_
      refine j_iload_n (pc' := 21) (z := p) dX0_soundThere_20 rfl rfl ?_
      refine j_callV (pc' := 24) (as := [aI p]) (rest := []) dX0_soundThere_21 rfl s_Car_61 (c_Car_kindOf hC0 hB0 hK0 hc (p := p) (by omega)) (by omega) hO rfl rfl rfl rfl (jdet (st' := [aR (2 + (D 0 p).toNat)]) rfl ?_)
      refine j_aload_n (pc' := 25) (z := c) dX0_soundThere_24 rfl rfl ?_
      refine j_get (pc' := 28) (v := aR (c + 2)) dX0_soundThere_25 rfl f_Car_19 (by omega) hO rfl ?_
      refine j_iload_n (pc' := 29) (z := p) dX0_soundThere_28 rfl rfl ?_
      refine j_iald (pc' := 30) dX0_soundThere_29 rfl (by omega) a2 (by omega) (by decide) ?_
      refine j_iload_n (pc' := 31) (z := pace) dX0_soundThere_30 rfl rfl ?_
      refine j_aload_n (pc' := 32) (z := c) dX0_soundThere_31 rfl rfl ?_
      refine j_get (pc' := 35) (v := aR (c + 7)) dX0_soundThere_32 rfl f_Car_34 (by omega) hO rfl ?_
      refine j_iconst (pc' := 36) dX0_soundThere_35 rfl ?_
      refine j_iald (pc' := 37) dX0_soundThere_36 rfl (by omega) a7 (by omega) (by decide) ?_
      refine j_aload_n (pc' := 38) (z := c) dX0_soundThere_37 rfl rfl ?_
      refine j_get (pc' := 41) (v := aR (c + 7)) dX0_soundThere_38 rfl f_Car_34 (by omega) hO rfl ?_
      refine j_iconst (pc' := 42) dX0_soundThere_41 rfl ?_
      refine j_iald (pc' := 43) dX0_soundThere_42 rfl (by omega) a7 (by omega) (by decide) ?_
      refine jk_Car_soundThere_43 (k := D 0 p) (f := D 1 p) (pace := pace) (cold := D 6 1) (load := D 6 2) hK0 (by omega) (by omega) (by omega) (by omega) (by omega) (Nat.le_of_ble_eq_true rfl) ?_
      refine j_istore (pc' := 48) (L' := [some (aR c), some (aI p), some (aI seat), some (aI pace), some (aI (loud (D 0 p) (D 1 p) pace (D 6 1) (D 6 2)))]) dX0_soundThere_46 rfl (by decide) rfl ?_
      refine j_iconst (pc' := 49) dX0_soundThere_48 rfl ?_
      refine j_iload (pc' := 51) (z := (loud (D 0 p) (D 1 p) pace (D 6 1) (D 6 2))) dX0_soundThere_49 rfl rfl ?_
      refine j_iload_n (pc' := 52) (z := seat) dX0_soundThere_51 rfl rfl ?_
      refine j_aload_n (pc' := 53) (z := c) dX0_soundThere_52 rfl rfl ?_
      refine j_get (pc' := 56) (v := aR (c + 3)) dX0_soundThere_53 rfl f_Car_22 (by omega) hO rfl ?_
      refine j_iload_n (pc' := 57) (z := p) dX0_soundThere_56 rfl rfl ?_
      refine j_iald (pc' := 58) dX0_soundThere_57 rfl (by omega) a3 (by omega) (by decide) ?_
      refine j_isub (pc' := 59) dX0_soundThere_58 rfl ?_
      refine j_mabs (pc' := 62) dX0_soundThere_59 rfl s_Car_102 rfl (by omega) ?_
      refine j_isub (pc' := 63) dX0_soundThere_62 rfl ?_
      refine j_mmax (pc' := 66) dX0_soundThere_63 rfl s_Car_105 rfl (by omega) (by omega) ?_
      exact j_iret dX0_soundThere_66 rfl (rt_eq (by unfold snd; split <;> first | rfl | omega))
    · refine j_iconst (pc' := 18) dX0_soundThere_17 rfl ?_
      exact j_iret dX0_soundThere_18 rfl (rt_eq (by unfold snd; split <;> first | rfl | omega))
set_option maxRecDepth 100000 in
set_option maxHeartbeats 4000000 in
theorem c_Car_soundOfAllBut {l : Launch} {w : AW} {c : Nat} {D : Int → Int → Int} {n mi : Int} {set seat pace : Int} (hC : CarAt w c D n mi) (hB : CarOK D n mi) (hK : KindsAt w) (hc : 10 ≤ c ∧ c + 8 ≤ 68) (hset : 0 ≤ set ∧ set ≤ 127) (hse : 0 ≤ seat ∧ seat ≤ 3) (hpa : 0 ≤ pace ∧ pace ≤ 1000) : Call l m_Car_soundOfAllBut false 68 68 [aR c, aI set, aI seat, aI pace] w (rt (some (aI (sab D n set seat pace))) w) := by
  have hC0 := hC
  have hB0 := hB
  have hK0 := hK
  obtain ⟨hO, a1, a2, a3, a4, a5, a6, a7⟩ := hC
  obtain ⟨hn, hD, hs0, hs1, hs2, hs3⟩ := hB
  obtain ⟨kk, t0, t1, t2, t3, t4, t5, t6, t7⟩ := hK
  refine Call.of (L := [some (aR c), some (aI set), some (aI seat), some (aI pace), none, none]) rfl (Nat.le_of_ble_eq_true rfl) rfl (fun G ad => ?_)
  refine j_iconst (pc' := 1) dX0_soundOfAllBut_0 rfl ?_
  refine j_istore (pc' := 3) (L' := [some (aR c), some (aI set), some (aI seat), some (aI pace), some (aI 0), none]) dX0_soundOfAllBut_1 rfl (by decide) rfl ?_
  refine j_iconst (pc' := 4) dX0_soundOfAllBut_3 rfl ?_
  refine j_istore (pc' := 6) (L' := [some (aR c), some (aI set), some (aI seat), some (aI pace), some (aI 0), some (aI 0)]) dX0_soundOfAllBut_4 rfl (by decide) rfl ?_
  have lp6 : ∀ (k9 : Nat) (v : Int) (i : Int), (0 ≤ i ∧ i ≤ n) → (v = sab D i set seat pace) → ((n - i).toNat) = k9 → J l m_Car_soundOfAllBut ad G [] false (jZ ad G false 68 m_Car_soundOfAllBut.2.2.2.2.cells m_Car_soundOfAllBut.2.2.2.2.slots (rt (some (aI (sab D n set seat pace))) w)) 68 0 0 6 [some (aR c), some (aI set), some (aI seat), some (aI pace), some (aI v), some (aI i)] [] w := by
    intro k9
    induction k9 using Nat.strongRecOn with
    | _ k9 ih6 =>
      intro v i hi hv hk6
      refine j_iload (pc' := 8) (z := i) dX0_soundOfAllBut_6 rfl rfl ?_
      refine j_aload_n (pc' := 9) (z := c) dX0_soundOfAllBut_8 rfl rfl ?_
      refine j_get (pc' := 12) (v := aI n) dX0_soundOfAllBut_9 rfl f_Car_37 (by omega) hO rfl ?_
      refine j_icmp_ge (tgt := 43) (pc' := 15) dX0_soundOfAllBut_12 (by decide) rfl (by omega) (by omega) (fun h12 => ?_) (fun h12 => ?_)
      · refine j_iload (pc' := 45) (z := v) dX0_soundOfAllBut_43 rfl rfl ?_
        exact j_iret dX0_soundOfAllBut_45 rfl (rt_eq (by rw [hv, show i = n by omega]))
      · refine j_iload_n (pc' := 16) (z := set) dX0_soundOfAllBut_15 rfl rfl ?_
        refine j_iload (pc' := 18) (z := i) dX0_soundOfAllBut_16 rfl rfl ?_
        refine j_ishr (pc' := 19) dX0_soundOfAllBut_18 rfl (by omega) (by omega) ?_
        refine j_iconst (pc' := 20) dX0_soundOfAllBut_19 rfl ?_
        refine j_imask (pc' := 21) 1 dX0_soundOfAllBut_20 rfl (by decide) rfl ?_
        have hbt : bt set i = set / 2 ^ (Int.toNat i) % 2 ^ 1 := rfl
        refine j_if_ne (tgt := 37) (pc' := 24) dX0_soundOfAllBut_21 (by decide) rfl (by omega) (fun h21 => ?_) (fun h21 => ?_)
        · refine j_iinc (pc' := 40) (z := i) (L' := [some (aR c), some (aI set), some (aI seat), some (aI pace), some (aI v), some (aI (i + 1))]) dX0_soundOfAllBut_37 rfl (by decide) rfl rfl rfl ?_
          refine j_goto (pc' := 6) dX0_soundOfAllBut_40 (by decide) ?_
          exact ih6 _ (by omega) v (i + 1) (by omega) (by unfold sab at hv ⊢; rw [sumI_s (by omega), ← hv]; split <;> omega) rfl
        · refine j_iload (pc' := 26) (z := v) dX0_soundOfAllBut_24 rfl rfl ?_
          refine j_aload_n (pc' := 27) (z := c) dX0_soundOfAllBut_26 rfl rfl ?_
          refine j_iload (pc' := 29) (z := i) dX0_soundOfAllBut_27 rfl rfl ?_
          refine j_iload_n (pc' := 30) (z := seat) dX0_soundOfAllBut_29 rfl rfl ?_
          refine j_iload_n (pc' := 31) (z := pace) dX0_soundOfAllBut_30 rfl rfl ?_
          refine j_callV (pc' := 34) (as := [aI i, aI seat, aI pace]) (rest := [aI v]) dX0_soundOfAllBut_31 rfl s_Car_108 (c_Car_soundThere hC0 hB0 hK0 hc (by omega) hse hpa) (by omega) hO rfl rfl rfl rfl (jdet (st' := [aI (snd D i seat pace), aI v]) rfl ?_)
          refine j_iadd (pc' := 35) dX0_soundOfAllBut_34 rfl ?_
          refine j_istore (pc' := 37) (L' := [some (aR c), some (aI set), some (aI seat), some (aI pace), some (aI (v + (snd D i seat pace))), some (aI i)]) dX0_soundOfAllBut_35 rfl (by decide) rfl ?_
          refine j_iinc (pc' := 40) (z := i) (L' := [some (aR c), some (aI set), some (aI seat), some (aI pace), some (aI (v + (snd D i seat pace))), some (aI (i + 1))]) dX0_soundOfAllBut_37 rfl (by decide) rfl rfl rfl ?_
          refine j_goto (pc' := 6) dX0_soundOfAllBut_40 (by decide) ?_
          exact ih6 _ (by omega) (v + (snd D i seat pace)) (i + 1) (by omega) (by unfold sab at hv ⊢; rw [sumI_s (by omega), ← hv]; split <;> omega) rfl
  exact lp6 _ 0 0 (by omega) (by rfl) rfl
set_option maxRecDepth 100000 in
set_option maxHeartbeats 4000000 in
theorem c_Car_heardAt {l : Launch} {w : AW} {c : Nat} {D : Int → Int → Int} {n mi : Int} {seat pace : Int} (hC : CarAt w c D n mi) (hB : CarOK D n mi) (hK : KindsAt w) (hc : 10 ≤ c ∧ c + 8 ≤ 68) (hse : 0 ≤ seat ∧ seat ≤ 3) (hpa : 0 ≤ pace ∧ pace ≤ 1000) : Call l m_Car_heardAt false 68 68 [aR c, aI seat, aI pace] w (rt (some (aI (hrd D n seat pace))) w) := by
  have hC0 := hC
  have hB0 := hB
  have hK0 := hK
  obtain ⟨hO, a1, a2, a3, a4, a5, a6, a7⟩ := hC
  obtain ⟨hn, hD, hs0, hs1, hs2, hs3⟩ := hB
  obtain ⟨kk, t0, t1, t2, t3, t4, t5, t6, t7⟩ := hK
  have hsb := sab_bd (set := 0) (seat := seat) (pace := pace) hB0
  refine Call.of (L := [some (aR c), some (aI seat), some (aI pace)]) rfl (Nat.le_of_ble_eq_true rfl) rfl (fun G ad => ?_)
  refine j_iconst (pc' := 1) dX0_heardAt_0 rfl ?_
  refine j_aload_n (pc' := 2) (z := c) dX0_heardAt_1 rfl rfl ?_
  refine j_iconst (pc' := 3) dX0_heardAt_2 rfl ?_
  refine j_iload_n (pc' := 4) (z := seat) dX0_heardAt_3 rfl rfl ?_
  refine j_iload_n (pc' := 5) (z := pace) dX0_heardAt_4 rfl rfl ?_
  refine j_callV (pc' := 8) (as := [aI 0, aI seat, aI pace]) (rest := [aI 0]) dX0_heardAt_5 rfl s_Car_112 (c_Car_soundOfAllBut hC0 hB0 hK0 hc (by omega) hse hpa) (by omega) hO rfl rfl rfl rfl (jdet (st' := [aI (sab D n 0 seat pace), aI 0]) rfl ?_)
  refine j_aload_n (pc' := 9) (z := c) dX0_heardAt_8 rfl rfl ?_
  refine j_get (pc' := 12) (v := aR (c + 7)) dX0_heardAt_9 rfl f_Car_34 (by omega) hO rfl ?_
  refine j_iconst (pc' := 13) dX0_heardAt_12 rfl ?_
  refine j_iald (pc' := 14) dX0_heardAt_13 rfl (by omega) a7 (by omega) (by decide) ?_
  refine j_isub (pc' := 15) dX0_heardAt_14 rfl ?_
  refine j_mmax (pc' := 18) dX0_heardAt_15 rfl s_Car_105 rfl (by omega) (by omega) ?_
  exact j_iret dX0_heardAt_18 rfl (rt_eq (by unfold hrd; rw [sab0]))
set_option maxRecDepth 100000 in
set_option maxHeartbeats 4000000 in
theorem c_Car_heardNow {l : Launch} {w : AW} {c : Nat} {D : Int → Int → Int} {n mi : Int} {seat : Int} (hC : CarAt w c D n mi) (hB : CarOK D n mi) (hK : KindsAt w) (hc : 10 ≤ c ∧ c + 8 ≤ 68) (hse : 0 ≤ seat ∧ seat ≤ 3) : Call l m_Car_heardNow false 68 68 [aR c, aI seat] w (rt (some (aI (hrd D n seat (D 6 0)))) w) := by
  have hC0 := hC
  have hB0 := hB
  have hK0 := hK
  obtain ⟨hO, a1, a2, a3, a4, a5, a6, a7⟩ := hC
  obtain ⟨hn, hD, hs0, hs1, hs2, hs3⟩ := hB
  obtain ⟨kk, t0, t1, t2, t3, t4, t5, t6, t7⟩ := hK
  have hsb := sab_bd (set := 0) (seat := seat) (pace := D 6 0) hB0
  refine Call.of (L := [some (aR c), some (aI seat)]) rfl (Nat.le_of_ble_eq_true rfl) rfl (fun G ad => ?_)
  refine j_iconst (pc' := 1) dX0_heardNow_0 rfl ?_
  refine j_aload_n (pc' := 2) (z := c) dX0_heardNow_1 rfl rfl ?_
  refine j_iconst (pc' := 3) dX0_heardNow_2 rfl ?_
  refine j_iload_n (pc' := 4) (z := seat) dX0_heardNow_3 rfl rfl ?_
  refine j_aload_n (pc' := 5) (z := c) dX0_heardNow_4 rfl rfl ?_
  refine j_get (pc' := 8) (v := aR (c + 7)) dX0_heardNow_5 rfl f_Car_34 (by omega) hO rfl ?_
  refine j_iconst (pc' := 9) dX0_heardNow_8 rfl ?_
  refine j_iald (pc' := 10) dX0_heardNow_9 rfl (by omega) a7 (by omega) (by decide) ?_
  refine j_callV (pc' := 13) (as := [aI 0, aI seat, aI (D 6 0)]) (rest := [aI 0]) dX0_heardNow_10 rfl s_Car_112 (c_Car_soundOfAllBut hC0 hB0 hK0 hc (by omega) hse (by omega)) (by omega) hO rfl rfl rfl rfl (jdet (st' := [aI (sab D n 0 seat (D 6 0)), aI 0]) rfl ?_)
  refine j_aload_n (pc' := 14) (z := c) dX0_heardNow_13 rfl rfl ?_
  refine j_get (pc' := 17) (v := aR (c + 7)) dX0_heardNow_14 rfl f_Car_34 (by omega) hO rfl ?_
  refine j_iconst (pc' := 18) dX0_heardNow_17 rfl ?_
  refine j_iald (pc' := 19) dX0_heardNow_18 rfl (by omega) a7 (by omega) (by decide) ?_
  refine j_isub (pc' := 20) dX0_heardNow_19 rfl ?_
  refine j_mmax (pc' := 23) dX0_heardNow_20 rfl s_Car_105 rfl (by omega) (by omega) ?_
  exact j_iret dX0_heardNow_23 rfl (rt_eq (by unfold hrd; rw [sab0]))
set_option maxRecDepth 100000 in
set_option maxHeartbeats 4000000 in
theorem jk_Car_hold_41 {l : Launch} {ad : Nat → Nat} {G : JG} {X : List (Nat × Nat × (Int → Int))} {Z : JZ} {L : List (Option AV)} {rest : List AV} {w : AW} {k f : Int} (hK : KindsAt w) (hk : 0 ≤ k ∧ k ≤ 7)  (hcat : (rest.map jcat).sum ≤ 8) (kont : J l m_Car_hold ad G X false Z 68 0 0 44 L (aI (secs k f) :: rest) w) : J l m_Car_hold ad G X false Z 68 0 0 41 L (aI f :: aR (2 + k.toNat) :: rest) w := by
  obtain ⟨kk, t0, t1, t2, t3, t4, t5, t6, t7⟩ := hK
  rcases (show k = 0 ∨ k = 1 ∨ k = 2 ∨ k = 3 ∨ k = 4 ∨ k = 5 ∨ k = 6 ∨ k = 7 by omega) with rfl | rfl | rfl | rfl | rfl | rfl | rfl | rfl
  · refine j_callO (pc' := 44) (q := 2) (as := [aI f]) (rest := rest) (Mx := m_Part_secondsToHold) dX0_hold_41 rfl s_Car_65_Part s_Car_65_Part c_Part_secondsToHold (by decide) t0 rfl rfl rfl (by have h9 : decide ((rest.map jcat).sum ≤ 8) = true := decide_eq_true hcat; simp only [rmB, h9]; rfl) (jdet rfl ?_)
    exact j_top (by simp [secs]) kont
  · refine j_callO (pc' := 44) (q := 3) (as := [aI f]) (rest := rest) (Mx := m_Part_secondsToHold) dX0_hold_41 rfl s_Car_65_Loose s_Car_65_Part (c_Loose_secondsToHold (by decide) t1 rfl) (by decide) t1 rfl rfl rfl (by have h9 : decide ((rest.map jcat).sum ≤ 8) = true := decide_eq_true hcat; simp only [rmB, h9]; rfl) (jdet rfl ?_)
    exact j_top (by simp [secs]) kont
  · refine j_callO (pc' := 44) (q := 4) (as := [aI f]) (rest := rest) (Mx := m_Part_secondsToHold) dX0_hold_41 rfl s_Car_65_Tinny s_Car_65_Part (c_Tinny_secondsToHold (by decide) t2 rfl) (by decide) t2 rfl rfl rfl (by have h9 : decide ((rest.map jcat).sum ≤ 8) = true := decide_eq_true hcat; simp only [rmB, h9]; rfl) (jdet rfl ?_)
    exact j_top (by simp [secs]) kont
  · refine j_callO (pc' := 44) (q := 5) (as := [aI f]) (rest := rest) (Mx := m_Part_secondsToHold) dX0_hold_41 rfl s_Car_65_Frosty s_Car_65_Part (c_Frosty_secondsToHold (by decide) t3 rfl) (by decide) t3 rfl rfl rfl (by have h9 : decide ((rest.map jcat).sum ≤ 8) = true := decide_eq_true hcat; simp only [rmB, h9]; rfl) (jdet rfl ?_)
    exact j_top (by simp [secs]) kont
  · refine j_callO (pc' := 44) (q := 6) (as := [aI f]) (rest := rest) (Mx := m_Part_secondsToHold) dX0_hold_41 rfl s_Car_65_Heavy s_Car_65_Part (c_Heavy_secondsToHold (by decide) t4 rfl) (by decide) t4 rfl rfl rfl (by have h9 : decide ((rest.map jcat).sum ≤ 8) = true := decide_eq_true hcat; simp only [rmB, h9]; rfl) (jdet rfl ?_)
    exact j_top (by simp [secs]) kont
  · refine j_callO (pc' := 44) (q := 7) (as := [aI f]) (rest := rest) (Mx := m_Part_secondsToHold) dX0_hold_41 rfl s_Car_65_Doubled s_Car_65_Part (c_Doubled_secondsToHold (by decide) t5 rfl) (by decide) t5 rfl rfl rfl (by have h9 : decide ((rest.map jcat).sum ≤ 8) = true := decide_eq_true hcat; simp only [rmB, h9]; rfl) (jdet rfl ?_)
    exact j_top (by simp [secs]) kont
  · refine j_callO (pc' := 44) (q := 8) (as := [aI f]) (rest := rest) (Mx := m_Part_secondsToHold) dX0_hold_41 rfl s_Car_65_Dead s_Car_65_Part c_Part_secondsToHold (by decide) t6 rfl rfl rfl (by have h9 : decide ((rest.map jcat).sum ≤ 8) = true := decide_eq_true hcat; simp only [rmB, h9]; rfl) (jdet rfl ?_)
    exact j_top (by simp [secs]) kont
  · refine j_callO (pc' := 44) (q := 9) (as := [aI f]) (rest := rest) (Mx := m_Part_secondsToHold) dX0_hold_41 rfl s_Car_65_Deep s_Car_65_Part (c_Heavy_secondsToHold (by decide) t7 rfl) (by decide) t7 rfl rfl rfl (by have h9 : decide ((rest.map jcat).sum ≤ 8) = true := decide_eq_true hcat; simp only [rmB, h9]; rfl) (jdet rfl ?_)
    exact j_top (by simp [secs]) kont
set_option maxRecDepth 100000 in
set_option maxHeartbeats 4000000 in
theorem c_Car_hold {l : Launch} {w : AW} {c : Nat} {D : Int → Int → Int} {n mi : Int} {p : Int} (hC : CarAt w c D n mi) (hB : CarOK D n mi) (hK : KindsAt w) (hc : 10 ≤ c ∧ c + 8 ≤ 68) (hp : inI p) : Call l m_Car_hold false 68 68 [aR c, aI p] w (rt (some (aI (holdR D n p))) (carW w c (holdD D n p) n mi)) := by
  have hC0 := hC
  have hB0 := hB
  have hK0 := hK
  obtain ⟨hO, a1, a2, a3, a4, a5, a6, a7⟩ := hC
  obtain ⟨hn, hD, hs0, hs1, hs2, hs3⟩ := hB
  obtain ⟨kk, t0, t1, t2, t3, t4, t5, t6, t7⟩ := hK
  refine Call.of (L := [some (aR c), some (aI p)]) rfl (Nat.le_of_ble_eq_true rfl) rfl (fun G ad => ?_)
  refine j_aload_n (pc' := 1) (z := c) dX0_hold_0 rfl rfl ?_
  refine j_iload_n (pc' := 2) (z := p) dX0_hold_1 rfl rfl ?_
  refine j_callV (pc' := 5) (as := [aI p]) (rest := []) dX0_hold_2 rfl s_Car_58 (c_Car_has hC0 hB0 hc (by omega)) (by omega) hO rfl rfl rfl rfl (jdet (st' := [aB (0 ≤ p ∧ p < n)]) rfl ?_)
  refine j_ifb_ne (tgt := 10) (pc' := 8) dX0_hold_5 (by decide) rfl (fun h5 => ?_) (fun h5 => ?_)
  · have hDp := hD p (by omega) (by omega)
    refine j_aload_n (pc' := 11) (z := c) dX0_hold_10 rfl rfl ?_
    refine j_get (pc' := 14) (v := aR (c + 5)) dX0_hold_11 rfl f_Car_28 (by omega) hO rfl ?_
    refine j_iload_n (pc' := 15) (z := p) dX0_hold_14 rfl rfl ?_
    refine j_iald (pc' := 16) dX0_hold_15 rfl (by omega) a5 (by omega) (by decide) ?_
    refine j_iconst (pc' := 17) dX0_hold_16 rfl ?_
    refine j_icmp_ne (tgt := 23) (pc' := 20) dX0_hold_17 (by decide) rfl (by omega) (by omega) (fun h17 => ?_) (fun h17 => ?_)
    · refine j_aload_n (pc' := 24) (z := c) dX0_hold_23 rfl rfl ?_
      refine j_get (pc' := 27) (v := aR (c + 5)) dX0_hold_24 rfl f_Car_28 (by omega) hO rfl ?_
      refine j_iload_n (pc' := 28) (z := p) dX0_hold_27 rfl rfl ?_
      refine j_iconst (pc' := 29) dX0_hold_28 rfl ?_
      refine j_iast (pc' := 30) dX0_hold_29 rfl (by omega) a5 (by omega) (by decide) ?_
      refine j_aload_n (pc' := 31) (z := c) dX0_hold_30 rfl rfl ?_
      refine j_iload_n (pc' := 32) (z := p) dX0_hold_31 rfl rfl ?_
      refine j_callV (pc' := 35) (as := [aI p]) (rest := []) dX0_hold_32 rfl s_Car_61 (c_Car_kindOf_w ((up_n (by omega)).trans hO) ((up_n (by omega)).trans a1) ((up_n (by omega)).trans kk) hB0 hc (p := p) (by omega)) (by omega) ((up_n (by omega)).trans hO) rfl rfl rfl rfl (jdet (st' := [aR (2 + (D 0 p).toNat)]) rfl ?_)
      refine j_aload_n (pc' := 36) (z := c) dX0_hold_35 rfl rfl ?_
      refine j_get (pc' := 39) (v := aR (c + 2)) dX0_hold_36 rfl f_Car_19 (by omega) ((up_n (by omega)).trans hO) rfl ?_
      refine j_iload_n (pc' := 40) (z := p) dX0_hold_39 rfl rfl ?_
      refine j_iald (pc' := 41) dX0_hold_40 rfl (by omega) ((up_n (by omega)).trans a2) (by omega) (by decide) ?_
      refine jk_Car_hold_41 (k := D 0 p) (f := D 1 p) (KindsAt_up hK0 (by omega)) (by omega)  (Nat.le_of_ble_eq_true rfl) ?_
      exact j_iret dX0_hold_44 rfl (rt_ew (by unfold holdR; (repeat' split) <;> first | rfl | omega) (by rw [show holdD D n p = upD D 4 p 1 from if_pos (by omega)]; apply carW_ext <;> first | (intro j9 hj9; simp only [up]; (repeat' split) <;> first | rfl | (exfalso; omega)) | simp [up, upD, *]))
    · refine j_bipush (pc' := 22) dX0_hold_20 rfl (by decide) ?_
      exact j_iret dX0_hold_22 rfl (rt_ew (by unfold holdR; (repeat' split) <;> first | rfl | omega) (by rw [show holdD D n p = D from if_neg (by omega)]; exact (carW_id hC0).symm))
  · refine j_iconst (pc' := 9) dX0_hold_8 rfl ?_
    exact j_iret dX0_hold_9 rfl (rt_ew (by unfold holdR; (repeat' split) <;> first | rfl | omega) (by rw [show holdD D n p = D from if_neg (by omega)]; exact (carW_id hC0).symm))
set_option maxRecDepth 100000 in
set_option maxHeartbeats 4000000 in
theorem c_Car_wedge {l : Launch} {w : AW} {c : Nat} {D : Int → Int → Int} {n mi : Int} {p : Int} (hC : CarAt w c D n mi) (hB : CarOK D n mi) (hK : KindsAt w) (hc : 10 ≤ c ∧ c + 8 ≤ 68) (hp : inI p) : Call l m_Car_wedge false 68 68 [aR c, aI p] w (rt (some (aI (wedR D n p))) (carW w c (wedD D n p) n mi)) := by
  have hC0 := hC
  have hB0 := hB
  have hK0 := hK
  obtain ⟨hO, a1, a2, a3, a4, a5, a6, a7⟩ := hC
  obtain ⟨hn, hD, hs0, hs1, hs2, hs3⟩ := hB
  obtain ⟨kk, t0, t1, t2, t3, t4, t5, t6, t7⟩ := hK
  refine Call.of (L := [some (aR c), some (aI p), none]) rfl (Nat.le_of_ble_eq_true rfl) rfl (fun G ad => ?_)
  refine j_aload_n (pc' := 1) (z := c) dX0_wedge_0 rfl rfl ?_
  refine j_iload_n (pc' := 2) (z := p) dX0_wedge_1 rfl rfl ?_
  refine j_callV (pc' := 5) (as := [aI p]) (rest := []) dX0_wedge_2 rfl s_Car_58 (c_Car_has hC0 hB0 hc (by omega)) (by omega) hO rfl rfl rfl rfl (jdet (st' := [aB (0 ≤ p ∧ p < n)]) rfl ?_)
  refine j_ifb_ne (tgt := 10) (pc' := 8) dX0_wedge_5 (by decide) rfl (fun h5 => ?_) (fun h5 => ?_)
  · have hDp := hD p (by omega) (by omega)
    refine j_aload_n (pc' := 11) (z := c) dX0_wedge_10 rfl rfl ?_
    refine j_get (pc' := 14) (v := aR (c + 5)) dX0_wedge_11 rfl f_Car_28 (by omega) hO rfl ?_
    refine j_iload_n (pc' := 15) (z := p) dX0_wedge_14 rfl rfl ?_
    refine j_iald (pc' := 16) dX0_wedge_15 rfl (by omega) a5 (by omega) (by decide) ?_
    refine j_iconst (pc' := 17) dX0_wedge_16 rfl ?_
    refine j_icmp_ne (tgt := 23) (pc' := 20) dX0_wedge_17 (by decide) rfl (by omega) (by omega) (fun h17 => ?_) (fun h17 => ?_)
    · refine j_aload_n (pc' := 24) (z := c) dX0_wedge_23 rfl rfl ?_
      refine j_get (pc' := 27) (v := aR (c + 5)) dX0_wedge_24 rfl f_Car_28 (by omega) hO rfl ?_
      refine j_iload_n (pc' := 28) (z := p) dX0_wedge_27 rfl rfl ?_
      refine j_iald (pc' := 29) dX0_wedge_28 rfl (by omega) a5 (by omega) (by decide) ?_
      refine j_istore_n (pc' := 30) (L' := [some (aR c), some (aI p), some (aI (D 4 p))]) dX0_wedge_29 rfl (by decide) rfl ?_
      refine j_aload_n (pc' := 31) (z := c) dX0_wedge_30 rfl rfl ?_
      refine j_get (pc' := 34) (v := aR (c + 5)) dX0_wedge_31 rfl f_Car_28 (by omega) hO rfl ?_
      refine j_iload_n (pc' := 35) (z := p) dX0_wedge_34 rfl rfl ?_
      refine j_iconst (pc' := 36) dX0_wedge_35 rfl ?_
      refine j_iast (pc' := 37) dX0_wedge_36 rfl (by omega) a5 (by omega) (by decide) ?_
      refine j_aload_n (pc' := 38) (z := c) dX0_wedge_37 rfl rfl ?_
      refine j_get (pc' := 41) (v := aR (c + 6)) dX0_wedge_38 rfl f_Car_31 (by omega) ((up_n (by omega)).trans hO) rfl ?_
      refine j_iload_n (pc' := 42) (z := p) dX0_wedge_41 rfl rfl ?_
      refine j_iconst (pc' := 43) dX0_wedge_42 rfl ?_
      refine j_iast (pc' := 44) dX0_wedge_43 rfl (by omega) ((up_n (by omega)).trans a6) (by omega) (by decide) ?_
      refine j_iload_n (pc' := 45) (z := (D 4 p)) dX0_wedge_44 rfl rfl ?_
      exact j_iret dX0_wedge_45 rfl (rt_ew (by unfold wedR; (repeat' split) <;> first | rfl | omega) (by rw [show wedD D n p = upD (upD D 4 p 2) 5 p 0 from if_pos (by omega)]; apply carW_ext <;> first | (intro j9 hj9; simp only [up]; (repeat' split) <;> first | rfl | (exfalso; omega)) | simp [up, upD, *]))
    · refine j_bipush (pc' := 22) dX0_wedge_20 rfl (by decide) ?_
      exact j_iret dX0_wedge_22 rfl (rt_ew (by unfold wedR; (repeat' split) <;> first | rfl | omega) (by rw [show wedD D n p = D from if_neg (by omega)]; exact (carW_id hC0).symm))
  · refine j_iconst (pc' := 9) dX0_wedge_8 rfl ?_
    exact j_iret dX0_wedge_9 rfl (rt_ew (by unfold wedR; (repeat' split) <;> first | rfl | omega) (by rw [show wedD D n p = D from if_neg (by omega)]; exact (carW_id hC0).symm))
set_option maxRecDepth 100000 in
set_option maxHeartbeats 4000000 in
theorem c_Car_takeOut {l : Launch} {w : AW} {c : Nat} {D : Int → Int → Int} {n mi : Int} {p : Int} (hC : CarAt w c D n mi) (hB : CarOK D n mi) (hK : KindsAt w) (hc : 10 ≤ c ∧ c + 8 ≤ 68) (hp : inI p) : Call l m_Car_takeOut false 68 68 [aR c, aI p] w (rt (some (aI (outR D n p))) (carW w c (outD D n p) n mi)) := by
  have hC0 := hC
  have hB0 := hB
  have hK0 := hK
  obtain ⟨hO, a1, a2, a3, a4, a5, a6, a7⟩ := hC
  obtain ⟨hn, hD, hs0, hs1, hs2, hs3⟩ := hB
  obtain ⟨kk, t0, t1, t2, t3, t4, t5, t6, t7⟩ := hK
  refine Call.of (L := [some (aR c), some (aI p)]) rfl (Nat.le_of_ble_eq_true rfl) rfl (fun G ad => ?_)
  refine j_aload_n (pc' := 1) (z := c) dX0_takeOut_0 rfl rfl ?_
  refine j_iload_n (pc' := 2) (z := p) dX0_takeOut_1 rfl rfl ?_
  refine j_callV (pc' := 5) (as := [aI p]) (rest := []) dX0_takeOut_2 rfl s_Car_58 (c_Car_has hC0 hB0 hc (by omega)) (by omega) hO rfl rfl rfl rfl (jdet (st' := [aB (0 ≤ p ∧ p < n)]) rfl ?_)
  refine j_ifb_ne (tgt := 10) (pc' := 8) dX0_takeOut_5 (by decide) rfl (fun h5 => ?_) (fun h5 => ?_)
  · have hDp := hD p (by omega) (by omega)
    refine j_aload_n (pc' := 11) (z := c) dX0_takeOut_10 rfl rfl ?_
    refine j_get (pc' := 14) (v := aR (c + 5)) dX0_takeOut_11 rfl f_Car_28 (by omega) hO rfl ?_
    refine j_iload_n (pc' := 15) (z := p) dX0_takeOut_14 rfl rfl ?_
    refine j_aload_n (pc' := 16) (z := c) dX0_takeOut_15 rfl rfl ?_
    refine j_get (pc' := 19) (v := aR (c + 5)) dX0_takeOut_16 rfl f_Car_28 (by omega) hO rfl ?_
    refine j_iload_n (pc' := 20) (z := p) dX0_takeOut_19 rfl rfl ?_
    refine j_iald (pc' := 21) dX0_takeOut_20 rfl (by omega) a5 (by omega) (by decide) ?_
    refine j_iconst (pc' := 22) dX0_takeOut_21 rfl ?_
    refine j_icmp_ne (tgt := 29) (pc' := 25) dX0_takeOut_22 (by decide) rfl (by omega) (by omega) (fun h22 => ?_) (fun h22 => ?_)
    · refine j_iconst (pc' := 30) dX0_takeOut_29 rfl ?_
      refine j_iast (pc' := 31) dX0_takeOut_30 rfl (by omega) a5 (by omega) (by decide) ?_
      refine j_aload_n (pc' := 32) (z := c) dX0_takeOut_31 rfl rfl ?_
      refine j_get (pc' := 35) (v := aR (c + 5)) dX0_takeOut_32 rfl f_Car_28 (by omega) ((up_n (by omega)).trans hO) rfl ?_
      refine j_iload_n (pc' := 36) (z := p) dX0_takeOut_35 rfl rfl ?_
      refine j_iald (pc' := 37) dX0_takeOut_36 rfl (by omega) up_s (by omega) (by decide) ?_
      exact j_iret dX0_takeOut_37 rfl (rt_ew (by rw [upi_s]; unfold outR; (repeat' split) <;> first | rfl | omega) (by rw [show outD D n p = upD D 4 p (if D 4 p = 3 then 0 else 3) from if_pos (by omega)]; simp only [h22, if_true, if_false]; apply carW_ext <;> first | (intro j9 hj9; simp only [up]; (repeat' split) <;> first | rfl | (exfalso; omega)) | simp [up, upD, *]))
    · refine j_iconst (pc' := 26) dX0_takeOut_25 rfl ?_
      refine j_goto (pc' := 30) dX0_takeOut_26 (by decide) ?_
      refine j_iast (pc' := 31) dX0_takeOut_30 rfl (by omega) a5 (by omega) (by decide) ?_
      refine j_aload_n (pc' := 32) (z := c) dX0_takeOut_31 rfl rfl ?_
      refine j_get (pc' := 35) (v := aR (c + 5)) dX0_takeOut_32 rfl f_Car_28 (by omega) ((up_n (by omega)).trans hO) rfl ?_
      refine j_iload_n (pc' := 36) (z := p) dX0_takeOut_35 rfl rfl ?_
      refine j_iald (pc' := 37) dX0_takeOut_36 rfl (by omega) up_s (by omega) (by decide) ?_
      exact j_iret dX0_takeOut_37 rfl (rt_ew (by rw [upi_s]; unfold outR; (repeat' split) <;> first | rfl | omega) (by rw [show outD D n p = upD D 4 p (if D 4 p = 3 then 0 else 3) from if_pos (by omega)]; simp only [h22, if_true, if_false]; apply carW_ext <;> first | (intro j9 hj9; simp only [up]; (repeat' split) <;> first | rfl | (exfalso; omega)) | simp [up, upD, *]))
  · refine j_iconst (pc' := 9) dX0_takeOut_8 rfl ?_
    exact j_iret dX0_takeOut_9 rfl (rt_ew (by unfold outR; (repeat' split) <;> first | rfl | omega) (by rw [show outD D n p = D from if_neg (by omega)]; exact (carW_id hC0).symm))
set_option maxRecDepth 100000 in
set_option maxHeartbeats 4000000 in
theorem c_Car_change {l : Launch} {w : AW} {c : Nat} {D : Int → Int → Int} {n mi : Int} {p v : Int} (hC : CarAt w c D n mi) (hB : CarOK D n mi) (hK : KindsAt w) (hc : 10 ≤ c ∧ c + 8 ≤ 68) (hp : inI p) (hv : inI v) : Call l m_Car_change false 68 68 [aR c, aI p, aI v] w (rt (some (aI (chR D p v))) (carW w c (chD D p v) n mi)) := by
  have hC0 := hC
  have hB0 := hB
  have hK0 := hK
  obtain ⟨hO, a1, a2, a3, a4, a5, a6, a7⟩ := hC
  obtain ⟨hn, hD, hs0, hs1, hs2, hs3⟩ := hB
  obtain ⟨kk, t0, t1, t2, t3, t4, t5, t6, t7⟩ := hK
  refine Call.of (L := [some (aR c), some (aI p), some (aI v), none]) rfl (Nat.le_of_ble_eq_true rfl) rfl (fun G ad => ?_)
  refine j_iload_n (pc' := 1) (z := p) dX0_change_0 rfl rfl ?_
  refine j_iconst (pc' := 2) dX0_change_1 rfl ?_
  refine j_iconst (pc' := 3) dX0_change_2 rfl ?_
  refine j_callSN (pc' := 6) (as := [aI p, aI 0, aI 3]) (rest := []) dX0_change_3 rfl s_Car_50 (c_within (by omega) (by omega) (by omega)) rfl rfl rfl (jdet (st' := [aB (0 ≤ p ∧ p ≤ 3)]) rfl ?_)
  refine j_ifb_eq (tgt := 22) (pc' := 9) dX0_change_6 (by decide) rfl (fun h6 => ?_) (fun h6 => ?_)
  · refine j_iconst (pc' := 23) dX0_change_22 rfl ?_
    exact j_iret dX0_change_23 rfl (rt_ew (by unfold chR; (repeat' split) <;> first | rfl | omega) (by rw [show chD D p v = D from if_neg (by omega)]; exact (carW_id hC0).symm))
  · refine j_iload_n (pc' := 10) (z := v) dX0_change_9 rfl rfl ?_
    refine j_iconst (pc' := 11) dX0_change_10 rfl ?_
    refine j_getsN (pc' := 14) dX0_change_11 rfl g_Car_81 ?_
    refine j_iload_n (pc' := 15) (z := p) dX0_change_14 rfl rfl ?_
    refine j_mos (pc' := 16) dX0_change_15 rfl (by omega) ?_
    have hms : 0 ≤ mos p ∧ mos p ≤ 99 := by unfold mos; (repeat' split) <;> omega
    refine j_callSN (pc' := 19) (as := [aI v, aI 0, aI (mos p)]) (rest := []) dX0_change_16 rfl s_Car_50 (c_within (by omega) (by omega) (by omega)) rfl rfl rfl (jdet (st' := [aB (0 ≤ v ∧ v ≤ mos p)]) rfl ?_)
    refine j_ifb_ne (tgt := 24) (pc' := 22) dX0_change_19 (by decide) rfl (fun h19 => ?_) (fun h19 => ?_)
    · refine j_aload_n (pc' := 25) (z := c) dX0_change_24 rfl rfl ?_
      refine j_get (pc' := 28) (v := aR (c + 7)) dX0_change_25 rfl f_Car_34 (by omega) hO rfl ?_
      refine j_iload_n (pc' := 29) (z := p) dX0_change_28 rfl rfl ?_
      refine j_iald (pc' := 30) dX0_change_29 rfl (by omega) a7 (by omega) (by decide) ?_
      refine j_istore_n (pc' := 31) (L' := [some (aR c), some (aI p), some (aI v), some (aI (D 6 p))]) dX0_change_30 rfl (by decide) rfl ?_
      refine j_aload_n (pc' := 32) (z := c) dX0_change_31 rfl rfl ?_
      refine j_get (pc' := 35) (v := aR (c + 7)) dX0_change_32 rfl f_Car_34 (by omega) hO rfl ?_
      refine j_iload_n (pc' := 36) (z := p) dX0_change_35 rfl rfl ?_
      refine j_iload_n (pc' := 37) (z := v) dX0_change_36 rfl rfl ?_
      refine j_iast (pc' := 38) dX0_change_37 rfl (by omega) a7 (by omega) (by decide) ?_
      refine j_iload_n (pc' := 39) (z := (D 6 p)) dX0_change_38 rfl rfl ?_
      exact j_iret dX0_change_39 rfl (rt_ew (by unfold chR; (repeat' split) <;> first | rfl | omega) (by rw [show chD D p v = upD D 6 p v from if_pos (by omega)]; apply carW_ext <;> first | (intro j9 hj9; simp only [up]; (repeat' split) <;> first | rfl | (exfalso; omega)) | simp [up, upD, *]))
    · refine j_iconst (pc' := 23) dX0_change_22 rfl ?_
      exact j_iret dX0_change_23 rfl (rt_ew (by unfold chR; (repeat' split) <;> first | rfl | omega) (by rw [show chD D p v = D from if_neg (by omega)]; exact (carW_id hC0).symm))
set_option maxRecDepth 100000 in
set_option maxHeartbeats 4000000 in
theorem c_Car_endDrive {l : Launch} {w : AW} {c : Nat} {D : Int → Int → Int} {n mi : Int}  (hC : CarAt w c D n mi) (hB : CarOK D n mi) (hK : KindsAt w) (hc : 10 ≤ c ∧ c + 8 ≤ 68)  : Call l m_Car_endDrive false 68 68 [aR c] w (rt none (carW w c (endD D n) n mi)) := by
  have hC0 := hC
  have hB0 := hB
  have hK0 := hK
  obtain ⟨hO, a1, a2, a3, a4, a5, a6, a7⟩ := hC
  obtain ⟨hn, hD, hs0, hs1, hs2, hs3⟩ := hB
  obtain ⟨kk, t0, t1, t2, t3, t4, t5, t6, t7⟩ := hK
  refine Call.of (L := [some (aR c), none]) rfl (Nat.le_of_ble_eq_true rfl) rfl (fun G ad => ?_)
  refine j_iconst (pc' := 1) dX0_endDrive_0 rfl ?_
  refine j_istore_n (pc' := 2) (L' := [some (aR c), some (aI 0)]) dX0_endDrive_1 rfl (by decide) rfl ?_
  have lp2 : ∀ (k9 : Nat) (i : Int), (0 ≤ i ∧ i ≤ n) → ((n - i).toNat) = k9 → J l m_Car_endDrive ad G [] false (jZ ad G false 68 m_Car_endDrive.2.2.2.2.cells m_Car_endDrive.2.2.2.2.slots (rt none (carW w c (endD D n) n mi))) 68 0 0 2 [some (aR c), some (aI i)] [] (up (up w (c + 5) (eI 7 (endD D i 4))) (c + 6) (eI 7 (endD D i 5))) := by
    intro k9
    induction k9 using Nat.strongRecOn with
    | _ k9 ih2 =>
      intro i hi hk2
      refine j_iload_n (pc' := 3) (z := i) dX0_endDrive_2 rfl rfl ?_
      refine j_aload_n (pc' := 4) (z := c) dX0_endDrive_3 rfl rfl ?_
      refine j_get (pc' := 7) (v := aI n) dX0_endDrive_4 rfl f_Car_37 (by omega) ((up_n (by omega)).trans ((up_n (by omega)).trans hO)) rfl ?_
      refine j_icmp_ge (tgt := 77) (pc' := 10) dX0_endDrive_7 (by decide) rfl (by omega) (by omega) (fun h7 => ?_) (fun h7 => ?_)
      · exact j_vret dX0_endDrive_77 rfl (rt_w (by rw [show i = n by omega]; apply carW_ext <;> first | (intro j9 hj9; simp only [up]; (repeat' split) <;> first | rfl | (exfalso; omega)) | simp [up, endD_o, *]))
      · have hDi := hD i (by omega) (by omega)
        have e4 : endD D i 4 i = D 4 i := endD_at
        have e5 : endD D i 5 i = D 5 i := endD_at
        refine j_aload_n (pc' := 11) (z := c) dX0_endDrive_10 rfl rfl ?_
        refine j_get (pc' := 14) (v := aR (c + 5)) dX0_endDrive_11 rfl f_Car_28 (by omega) ((up_n (by omega)).trans ((up_n (by omega)).trans hO)) rfl ?_
        refine j_iload_n (pc' := 15) (z := i) dX0_endDrive_14 rfl rfl ?_
        refine j_iald (pc' := 16) dX0_endDrive_15 rfl (by omega) ((up_n (by omega)).trans up_s) (by omega) (by decide) ?_
        refine j_iconst (pc' := 17) dX0_endDrive_16 rfl ?_
        refine j_icmp_ne (tgt := 30) (pc' := 20) dX0_endDrive_17 (by decide) rfl (by omega) (by omega) (fun h17 => ?_) (fun h17 => ?_)
        · refine j_aload_n (pc' := 31) (z := c) dX0_endDrive_30 rfl rfl ?_
          refine j_get (pc' := 34) (v := aR (c + 5)) dX0_endDrive_31 rfl f_Car_28 (by omega) ((up_n (by omega)).trans ((up_n (by omega)).trans hO)) rfl ?_
          refine j_iload_n (pc' := 35) (z := i) dX0_endDrive_34 rfl rfl ?_
          refine j_iald (pc' := 36) dX0_endDrive_35 rfl (by omega) ((up_n (by omega)).trans up_s) (by omega) (by decide) ?_
          refine j_iconst (pc' := 37) dX0_endDrive_36 rfl ?_
          refine j_icmp_ne (tgt := 71) (pc' := 40) dX0_endDrive_37 (by decide) rfl (by omega) (by omega) (fun h37 => ?_) (fun h37 => ?_)
          · refine j_iinc (pc' := 74) (z := i) (L' := [some (aR c), some (aI (i + 1))]) dX0_endDrive_71 rfl (by decide) rfl rfl rfl ?_
            refine j_goto (pc' := 2) dX0_endDrive_74 (by decide) ?_
            refine j_w (w' := up (up w (c + 5) (eI 7 (endD D (i + 1) 4))) (c + 6) (eI 7 (endD D (i + 1) 5))) (by first | (rw [endD_0]; funext j9; simp only [up]; (repeat' split) <;> first | rfl | (subst_vars; assumption) | (exfalso; omega)) | rw [endD_s4 (D := D) (i := i) (by omega) (by (repeat' split) <;> omega), endD_k5 (D := D) (i := i) (by omega) (by omega)] | rw [endD_s4 (D := D) (i := i) (by omega) (by (repeat' split) <;> omega), endD_s5 (D := D) (i := i) (by omega) (by (repeat' split) <;> omega)] | rw [endD_k4 (D := D) (i := i) (by omega) (by omega) (by omega), endD_k5 (D := D) (i := i) (by omega) (by omega)]) ?_
            exact ih2 _ (by omega) (i + 1) (by omega) rfl
          · refine j_aload_n (pc' := 41) (z := c) dX0_endDrive_40 rfl rfl ?_
            refine j_get (pc' := 44) (v := aR (c + 6)) dX0_endDrive_41 rfl f_Car_31 (by omega) ((up_n (by omega)).trans ((up_n (by omega)).trans hO)) rfl ?_
            refine j_iload_n (pc' := 45) (z := i) dX0_endDrive_44 rfl rfl ?_
            refine j_dup2 (pc' := 46) dX0_endDrive_45 rfl rfl rfl ?_
            refine j_iald (pc' := 47) dX0_endDrive_46 rfl (by omega) up_s (by omega) (by decide) ?_
            refine j_iconst (pc' := 48) dX0_endDrive_47 rfl ?_
            refine j_iadd (pc' := 49) dX0_endDrive_48 rfl ?_
            refine j_iast (pc' := 50) dX0_endDrive_49 rfl (by omega) up_s (by omega) (by decide) ?_
            refine j_w (w' := up (up w (c + 5) (eI 7 (endD D i 4))) (c + 6) (eI 7 (upi (endD D i 5) i ((endD D i 5 i) + 1)))) (by funext j9; simp only [up]; (repeat' split) <;> first | rfl | (exfalso; omega)) ?_
            refine j_aload_n (pc' := 51) (z := c) dX0_endDrive_50 rfl rfl ?_
            refine j_get (pc' := 54) (v := aR (c + 5)) dX0_endDrive_51 rfl f_Car_28 (by omega) ((up_n (by omega)).trans ((up_n (by omega)).trans hO)) rfl ?_
            refine j_iload_n (pc' := 55) (z := i) dX0_endDrive_54 rfl rfl ?_
            refine j_aload_n (pc' := 56) (z := c) dX0_endDrive_55 rfl rfl ?_
            refine j_get (pc' := 59) (v := aR (c + 6)) dX0_endDrive_56 rfl f_Car_31 (by omega) ((up_n (by omega)).trans ((up_n (by omega)).trans hO)) rfl ?_
            refine j_iload_n (pc' := 60) (z := i) dX0_endDrive_59 rfl rfl ?_
            refine j_iald (pc' := 61) dX0_endDrive_60 rfl (by omega) up_s (by omega) (by decide) ?_
            refine j_iconst (pc' := 62) dX0_endDrive_61 rfl ?_
            have e6 : upi (endD D i 5) i (endD D i 5 i + 1) i = D 5 i + 1 := by rw [upi_s, e5]
            refine j_icmp_lt (tgt := 69) (pc' := 65) dX0_endDrive_62 (by decide) rfl (by omega) (by omega) (fun h62 => ?_) (fun h62 => ?_)
            · refine j_iconst (pc' := 70) dX0_endDrive_69 rfl ?_
              refine j_iast (pc' := 71) dX0_endDrive_70 rfl (by omega) ((up_n (by omega)).trans up_s) (by omega) (by decide) ?_
              refine j_w (w' := up (up w (c + 5) (eI 7 (upi (endD D i 4) i 2))) (c + 6) (eI 7 (upi (endD D i 5) i ((endD D i 5 i) + 1)))) (by funext j9; simp only [up]; (repeat' split) <;> first | rfl | (exfalso; omega)) ?_
              refine j_iinc (pc' := 74) (z := i) (L' := [some (aR c), some (aI (i + 1))]) dX0_endDrive_71 rfl (by decide) rfl rfl rfl ?_
              refine j_goto (pc' := 2) dX0_endDrive_74 (by decide) ?_
              refine j_w (w' := up (up w (c + 5) (eI 7 (endD D (i + 1) 4))) (c + 6) (eI 7 (endD D (i + 1) 5))) (by first | (rw [endD_0]; funext j9; simp only [up]; (repeat' split) <;> first | rfl | (subst_vars; assumption) | (exfalso; omega)) | rw [endD_s4 (D := D) (i := i) (by omega) (by (repeat' split) <;> omega), endD_k5 (D := D) (i := i) (by omega) (by omega)] | rw [endD_s4 (D := D) (i := i) (by omega) (by (repeat' split) <;> omega), endD_s5 (D := D) (i := i) (by omega) (by (repeat' split) <;> omega)] | rw [endD_k4 (D := D) (i := i) (by omega) (by omega) (by omega), endD_k5 (D := D) (i := i) (by omega) (by omega)]) ?_
              exact ih2 _ (by omega) (i + 1) (by omega) rfl
            · refine j_iconst (pc' := 66) dX0_endDrive_65 rfl ?_
              refine j_goto (pc' := 70) dX0_endDrive_66 (by decide) ?_
              refine j_iast (pc' := 71) dX0_endDrive_70 rfl (by omega) ((up_n (by omega)).trans up_s) (by omega) (by decide) ?_
              refine j_w (w' := up (up w (c + 5) (eI 7 (upi (endD D i 4) i 0))) (c + 6) (eI 7 (upi (endD D i 5) i ((endD D i 5 i) + 1)))) (by funext j9; simp only [up]; (repeat' split) <;> first | rfl | (exfalso; omega)) ?_
              refine j_iinc (pc' := 74) (z := i) (L' := [some (aR c), some (aI (i + 1))]) dX0_endDrive_71 rfl (by decide) rfl rfl rfl ?_
              refine j_goto (pc' := 2) dX0_endDrive_74 (by decide) ?_
              refine j_w (w' := up (up w (c + 5) (eI 7 (endD D (i + 1) 4))) (c + 6) (eI 7 (endD D (i + 1) 5))) (by first | (rw [endD_0]; funext j9; simp only [up]; (repeat' split) <;> first | rfl | (subst_vars; assumption) | (exfalso; omega)) | rw [endD_s4 (D := D) (i := i) (by omega) (by (repeat' split) <;> omega), endD_k5 (D := D) (i := i) (by omega) (by omega)] | rw [endD_s4 (D := D) (i := i) (by omega) (by (repeat' split) <;> omega), endD_s5 (D := D) (i := i) (by omega) (by (repeat' split) <;> omega)] | rw [endD_k4 (D := D) (i := i) (by omega) (by omega) (by omega), endD_k5 (D := D) (i := i) (by omega) (by omega)]) ?_
              exact ih2 _ (by omega) (i + 1) (by omega) rfl
        · refine j_aload_n (pc' := 21) (z := c) dX0_endDrive_20 rfl rfl ?_
          refine j_get (pc' := 24) (v := aR (c + 5)) dX0_endDrive_21 rfl f_Car_28 (by omega) ((up_n (by omega)).trans ((up_n (by omega)).trans hO)) rfl ?_
          refine j_iload_n (pc' := 25) (z := i) dX0_endDrive_24 rfl rfl ?_
          refine j_iconst (pc' := 26) dX0_endDrive_25 rfl ?_
          refine j_iast (pc' := 27) dX0_endDrive_26 rfl (by omega) ((up_n (by omega)).trans up_s) (by omega) (by decide) ?_
          refine j_w (w' := up (up w (c + 5) (eI 7 (upi (endD D i 4) i 0))) (c + 6) (eI 7 (endD D i 5))) (by funext j9; simp only [up]; (repeat' split) <;> first | rfl | (exfalso; omega)) ?_
          refine j_goto (pc' := 71) dX0_endDrive_27 (by decide) ?_
          refine j_iinc (pc' := 74) (z := i) (L' := [some (aR c), some (aI (i + 1))]) dX0_endDrive_71 rfl (by decide) rfl rfl rfl ?_
          refine j_goto (pc' := 2) dX0_endDrive_74 (by decide) ?_
          refine j_w (w' := up (up w (c + 5) (eI 7 (endD D (i + 1) 4))) (c + 6) (eI 7 (endD D (i + 1) 5))) (by first | (rw [endD_0]; funext j9; simp only [up]; (repeat' split) <;> first | rfl | (subst_vars; assumption) | (exfalso; omega)) | rw [endD_s4 (D := D) (i := i) (by omega) (by (repeat' split) <;> omega), endD_k5 (D := D) (i := i) (by omega) (by omega)] | rw [endD_s4 (D := D) (i := i) (by omega) (by (repeat' split) <;> omega), endD_s5 (D := D) (i := i) (by omega) (by (repeat' split) <;> omega)] | rw [endD_k4 (D := D) (i := i) (by omega) (by omega) (by omega), endD_k5 (D := D) (i := i) (by omega) (by omega)]) ?_
          exact ih2 _ (by omega) (i + 1) (by omega) rfl
  refine j_w (w' := up (up w (c + 5) (eI 7 (endD D 0 4))) (c + 6) (eI 7 (endD D 0 5))) (by first | (rw [endD_0]; funext j9; simp only [up]; (repeat' split) <;> first | rfl | (subst_vars; assumption) | (exfalso; omega)) | rw [endD_s4 (D := D) (i := i) (by omega) (by (repeat' split) <;> omega), endD_k5 (D := D) (i := i) (by omega) (by omega)] | rw [endD_s4 (D := D) (i := i) (by omega) (by (repeat' split) <;> omega), endD_s5 (D := D) (i := i) (by omega) (by (repeat' split) <;> omega)] | rw [endD_k4 (D := D) (i := i) (by omega) (by omega) (by omega), endD_k5 (D := D) (i := i) (by omega) (by omega)]) ?_
  exact lp2 _ 0 (by omega) rfl
set_option maxRecDepth 100000 in
set_option maxHeartbeats 4000000 in
theorem c_Car_drive {l : Launch} {w : AW} {c : Nat} {D : Int → Int → Int} {n mi : Int} {p : Int} (hC : CarAt w c D n mi) (hB : CarOK D n mi) (hK : KindsAt w) (hc : 10 ≤ c ∧ c + 8 ≤ 68) (hp : inI p) : Call l m_Car_drive false 68 68 [aR c, aI p] w (rt (some (aI (drR mi p))) (carW w c (drD D n mi p) n (drM mi p))) := by
  have hC0 := hC
  have hB0 := hB
  have hK0 := hK
  obtain ⟨hO, a1, a2, a3, a4, a5, a6, a7⟩ := hC
  obtain ⟨hn, hD, hs0, hs1, hs2, hs3⟩ := hB
  obtain ⟨kk, t0, t1, t2, t3, t4, t5, t6, t7⟩ := hK
  refine Call.of (L := [some (aR c), some (aI p)]) rfl (Nat.le_of_ble_eq_true rfl) rfl (fun G ad => ?_)
  refine j_iload_n (pc' := 1) (z := p) dX0_drive_0 rfl rfl ?_
  refine j_iconst (pc' := 2) dX0_drive_1 rfl ?_
  refine j_bipush (pc' := 4) dX0_drive_2 rfl (by decide) ?_
  refine j_callSN (pc' := 7) (as := [aI p, aI 1, aI 99]) (rest := []) dX0_drive_4 rfl s_Car_50 (c_within (by omega) (by omega) (by omega)) rfl rfl rfl (jdet (st' := [aB (1 ≤ p ∧ p ≤ 99)]) rfl ?_)
  refine j_ifb_ne (tgt := 12) (pc' := 10) dX0_drive_7 (by decide) rfl (fun h7 => ?_) (fun h7 => ?_)
  · refine j_aload_n (pc' := 13) (z := c) dX0_drive_12 rfl rfl ?_
    refine j_get (pc' := 16) (v := aI mi) dX0_drive_13 rfl f_Car_41 (by omega) hO rfl ?_
    refine j_iload_n (pc' := 17) (z := p) dX0_drive_16 rfl rfl ?_
    refine j_iadd (pc' := 18) dX0_drive_17 rfl ?_
    refine j_sipush (pc' := 21) dX0_drive_18 rfl (by decide) ?_
    refine j_icmp_le (tgt := 27) (pc' := 24) dX0_drive_21 (by decide) rfl (by omega) (by omega) (fun h21 => ?_) (fun h21 => ?_)
    · refine j_aload_n (pc' := 28) (z := c) dX0_drive_27 rfl rfl ?_
      refine j_dup (pc' := 29) dX0_drive_28 rfl rfl ?_
      refine j_get (pc' := 32) (v := aI mi) dX0_drive_29 rfl f_Car_41 (by omega) hO rfl ?_
      refine j_iload_n (pc' := 33) (z := p) dX0_drive_32 rfl rfl ?_
      refine j_iadd (pc' := 34) dX0_drive_33 rfl ?_
      refine j_putI (pc' := 37) dX0_drive_34 rfl p_Car_41 (by omega) hO (Nat.le_of_ble_eq_true rfl) ?_
      refine j_w (w' := up w c (eO 0 [aR 1, aR (c + 1), aR (c + 2), aR (c + 3), aR (c + 4), aR (c + 5), aR (c + 6), aR (c + 7), aI n, aI (mi + p)])) rfl ?_
      refine j_aload_n (pc' := 38) (z := c) dX0_drive_37 rfl rfl ?_
      refine j_callV (pc' := 41) (as := []) (rest := []) dX0_drive_38 rfl s_Car_84 (c_Car_endDrive (n := n) (mi := mi + p) (D := D) ⟨up_s, (up_n (by omega)).trans a1, (up_n (by omega)).trans a2, (up_n (by omega)).trans a3, (up_n (by omega)).trans a4, (up_n (by omega)).trans a5, (up_n (by omega)).trans a6, (up_n (by omega)).trans a7⟩ ⟨⟨by omega, by omega, by omega, by omega⟩, hD, hs0, hs1, hs2, hs3⟩ (KindsAt_up hK0 (by omega)) hc) (by omega) up_s rfl rfl rfl rfl (jdet (st' := []) rfl ?_)
      refine j_iconst (pc' := 42) dX0_drive_41 rfl ?_
      exact j_iret dX0_drive_42 rfl (rt_ew (by unfold drR; (repeat' split) <;> first | rfl | omega) (by rw [show drD D n mi p = endD D n from if_pos (by omega), show drM mi p = mi + p from if_pos (by omega)]; funext j9; by_cases h9 : j9 < c ∨ c + 8 ≤ j9; (rw [carW_out h9, carW_out h9, up_n (by omega)]); (rcases (show j9 = c ∨ j9 = c + 1 ∨ j9 = c + 2 ∨ j9 = c + 3 ∨ j9 = c + 4 ∨ j9 = c + 5 ∨ j9 = c + 6 ∨ j9 = c + 7 by omega) with rfl | rfl | rfl | rfl | rfl | rfl | rfl | rfl <;> simp [carW])))
    · refine j_bipush (pc' := 26) dX0_drive_24 rfl (by decide) ?_
      exact j_iret dX0_drive_26 rfl (rt_ew (by unfold drR; (repeat' split) <;> first | rfl | omega) (by rw [show drD D n mi p = D from if_neg (by omega), show drM mi p = mi from if_neg (by omega)]; exact (carW_id hC0).symm))
  · refine j_iconst (pc' := 11) dX0_drive_10 rfl ?_
    exact j_iret dX0_drive_11 rfl (rt_ew (by unfold drR; (repeat' split) <;> first | rfl | omega) (by rw [show drD D n mi p = D from if_neg (by omega), show drM mi p = mi from if_neg (by omega)]; exact (carW_id hC0).symm))
set_option maxRecDepth 100000 in
set_option maxHeartbeats 4000000 in
theorem c_Car_takeIn {l : Launch} {w : AW} {c : Nat} {D : Int → Int → Int} {n mi : Int} {k f s v : Int} (hC : CarAt w c D n mi) (hB : CarOK D n mi) (hK : KindsAt w) (hc : 10 ≤ c ∧ c + 8 ≤ 68) (hk : inI k) (hf : inI f) (hs : inI s) (hv : inI v) : Call l m_Car_takeIn false 68 68 [aR c, aI k, aI f, aI s, aI v] w (rt (some (aI (tiR n k f s v))) (carW w c (tiD D n k f s v) (tiN n k f s v) mi)) := by
  have hC0 := hC
  have hB0 := hB
  have hK0 := hK
  obtain ⟨hO, a1, a2, a3, a4, a5, a6, a7⟩ := hC
  obtain ⟨hn, hD, hs0, hs1, hs2, hs3⟩ := hB
  obtain ⟨kk, t0, t1, t2, t3, t4, t5, t6, t7⟩ := hK
  refine Call.of (L := [some (aR c), some (aI k), some (aI f), some (aI s), some (aI v)]) rfl (Nat.le_of_ble_eq_true rfl) rfl (fun G ad => ?_)
  refine j_iload_n (pc' := 1) (z := k) dX0_takeIn_0 rfl rfl ?_
  refine j_iconst (pc' := 2) dX0_takeIn_1 rfl ?_
  refine j_bipush (pc' := 4) dX0_takeIn_2 rfl (by decide) ?_
  refine j_callSN (pc' := 7) (as := [aI k, aI 0, aI 7]) (rest := []) dX0_takeIn_4 rfl s_Car_50 (c_within (by omega) (by omega) (by omega)) rfl rfl rfl (jdet (st' := [aB (0 ≤ k ∧ k ≤ 7)]) rfl ?_)
  refine j_ifb_eq (tgt := 38) (pc' := 10) dX0_takeIn_7 (by decide) rfl (fun h7 => ?_) (fun h7 => ?_)
  · refine j_iconst (pc' := 39) dX0_takeIn_38 rfl ?_
    exact j_iret dX0_takeIn_39 rfl (rt_ew (by unfold tiR; (repeat' split) <;> first | rfl | omega) (by rw [show tiD D n k f s v = D from if_neg (by omega), show tiN n k f s v = n from if_neg (by omega)]; exact (carW_id hC0).symm))
  · refine j_iload_n (pc' := 11) (z := f) dX0_takeIn_10 rfl rfl ?_
    refine j_iconst (pc' := 12) dX0_takeIn_11 rfl ?_
    refine j_bipush (pc' := 14) dX0_takeIn_12 rfl (by decide) ?_
    refine j_callSN (pc' := 17) (as := [aI f, aI 0, aI 9]) (rest := []) dX0_takeIn_14 rfl s_Car_50 (c_within (by omega) (by omega) (by omega)) rfl rfl rfl (jdet (st' := [aB (0 ≤ f ∧ f ≤ 9)]) rfl ?_)
    refine j_ifb_eq (tgt := 38) (pc' := 20) dX0_takeIn_17 (by decide) rfl (fun h17 => ?_) (fun h17 => ?_)
    · refine j_iconst (pc' := 39) dX0_takeIn_38 rfl ?_
      exact j_iret dX0_takeIn_39 rfl (rt_ew (by unfold tiR; (repeat' split) <;> first | rfl | omega) (by rw [show tiD D n k f s v = D from if_neg (by omega), show tiN n k f s v = n from if_neg (by omega)]; exact (carW_id hC0).symm))
    · refine j_iload_n (pc' := 21) (z := s) dX0_takeIn_20 rfl rfl ?_
      refine j_callSN (pc' := 24) (as := [aI s]) (rest := []) dX0_takeIn_21 rfl s_Car_54 (c_isSeat (by omega)) rfl rfl rfl (jdet (st' := [aB (0 ≤ s ∧ s ≤ 3)]) rfl ?_)
      refine j_ifb_eq (tgt := 38) (pc' := 27) dX0_takeIn_24 (by decide) rfl (fun h24 => ?_) (fun h24 => ?_)
      · refine j_iconst (pc' := 39) dX0_takeIn_38 rfl ?_
        exact j_iret dX0_takeIn_39 rfl (rt_ew (by unfold tiR; (repeat' split) <;> first | rfl | omega) (by rw [show tiD D n k f s v = D from if_neg (by omega), show tiN n k f s v = n from if_neg (by omega)]; exact (carW_id hC0).symm))
      · refine j_iload (pc' := 29) (z := v) dX0_takeIn_27 rfl rfl ?_
        refine j_iconst (pc' := 30) dX0_takeIn_29 rfl ?_
        refine j_bipush (pc' := 32) dX0_takeIn_30 rfl (by decide) ?_
        refine j_callSN (pc' := 35) (as := [aI v, aI 1, aI 9]) (rest := []) dX0_takeIn_32 rfl s_Car_50 (c_within (by omega) (by omega) (by omega)) rfl rfl rfl (jdet (st' := [aB (1 ≤ v ∧ v ≤ 9)]) rfl ?_)
        refine j_ifb_ne (tgt := 40) (pc' := 38) dX0_takeIn_35 (by decide) rfl (fun h35 => ?_) (fun h35 => ?_)
        · refine j_aload_n (pc' := 41) (z := c) dX0_takeIn_40 rfl rfl ?_
          refine j_get (pc' := 44) (v := aI n) dX0_takeIn_41 rfl f_Car_37 (by omega) hO rfl ?_
          refine j_bipush (pc' := 46) dX0_takeIn_44 rfl (by decide) ?_
          refine j_icmp_lt (tgt := 52) (pc' := 49) dX0_takeIn_46 (by decide) rfl (by omega) (by omega) (fun h46 => ?_) (fun h46 => ?_)
          · refine j_aload_n (pc' := 53) (z := c) dX0_takeIn_52 rfl rfl ?_
            refine j_get (pc' := 56) (v := aR (c + 1)) dX0_takeIn_53 rfl f_Car_15 (by omega) hO rfl ?_
            refine j_aload_n (pc' := 57) (z := c) dX0_takeIn_56 rfl rfl ?_
            refine j_get (pc' := 60) (v := aI n) dX0_takeIn_57 rfl f_Car_37 (by omega) hO rfl ?_
            refine j_iload_n (pc' := 61) (z := k) dX0_takeIn_60 rfl rfl ?_
            refine j_iast (pc' := 62) dX0_takeIn_61 rfl (by omega) a1 (by omega) (by decide) ?_
            refine j_aload_n (pc' := 63) (z := c) dX0_takeIn_62 rfl rfl ?_
            refine j_get (pc' := 66) (v := aR (c + 2)) dX0_takeIn_63 rfl f_Car_19 (by omega) ((up_n (by omega)).trans hO) rfl ?_
            refine j_aload_n (pc' := 67) (z := c) dX0_takeIn_66 rfl rfl ?_
            refine j_get (pc' := 70) (v := aI n) dX0_takeIn_67 rfl f_Car_37 (by omega) ((up_n (by omega)).trans hO) rfl ?_
            refine j_iload_n (pc' := 71) (z := f) dX0_takeIn_70 rfl rfl ?_
            refine j_iast (pc' := 72) dX0_takeIn_71 rfl (by omega) ((up_n (by omega)).trans a2) (by omega) (by decide) ?_
            refine j_aload_n (pc' := 73) (z := c) dX0_takeIn_72 rfl rfl ?_
            refine j_get (pc' := 76) (v := aR (c + 3)) dX0_takeIn_73 rfl f_Car_22 (by omega) ((up_n (by omega)).trans ((up_n (by omega)).trans hO)) rfl ?_
            refine j_aload_n (pc' := 77) (z := c) dX0_takeIn_76 rfl rfl ?_
            refine j_get (pc' := 80) (v := aI n) dX0_takeIn_77 rfl f_Car_37 (by omega) ((up_n (by omega)).trans ((up_n (by omega)).trans hO)) rfl ?_
            refine j_iload_n (pc' := 81) (z := s) dX0_takeIn_80 rfl rfl ?_
            refine j_iast (pc' := 82) dX0_takeIn_81 rfl (by omega) ((up_n (by omega)).trans ((up_n (by omega)).trans a3)) (by omega) (by decide) ?_
            refine j_aload_n (pc' := 83) (z := c) dX0_takeIn_82 rfl rfl ?_
            refine j_get (pc' := 86) (v := aR (c + 4)) dX0_takeIn_83 rfl f_Car_25 (by omega) ((up_n (by omega)).trans ((up_n (by omega)).trans ((up_n (by omega)).trans hO))) rfl ?_
            refine j_aload_n (pc' := 87) (z := c) dX0_takeIn_86 rfl rfl ?_
            refine j_get (pc' := 90) (v := aI n) dX0_takeIn_87 rfl f_Car_37 (by omega) ((up_n (by omega)).trans ((up_n (by omega)).trans ((up_n (by omega)).trans hO))) rfl ?_
            refine j_iload (pc' := 92) (z := v) dX0_takeIn_90 rfl rfl ?_
            refine j_iast (pc' := 93) dX0_takeIn_92 rfl (by omega) ((up_n (by omega)).trans ((up_n (by omega)).trans ((up_n (by omega)).trans a4))) (by omega) (by decide) ?_
            refine j_aload_n (pc' := 94) (z := c) dX0_takeIn_93 rfl rfl ?_
            refine j_get (pc' := 97) (v := aR (c + 5)) dX0_takeIn_94 rfl f_Car_28 (by omega) ((up_n (by omega)).trans ((up_n (by omega)).trans ((up_n (by omega)).trans ((up_n (by omega)).trans hO)))) rfl ?_
            refine j_aload_n (pc' := 98) (z := c) dX0_takeIn_97 rfl rfl ?_
            refine j_get (pc' := 101) (v := aI n) dX0_takeIn_98 rfl f_Car_37 (by omega) ((up_n (by omega)).trans ((up_n (by omega)).trans ((up_n (by omega)).trans ((up_n (by omega)).trans hO)))) rfl ?_
            refine j_iconst (pc' := 102) dX0_takeIn_101 rfl ?_
            refine j_iast (pc' := 103) dX0_takeIn_102 rfl (by omega) ((up_n (by omega)).trans ((up_n (by omega)).trans ((up_n (by omega)).trans ((up_n (by omega)).trans a5)))) (by omega) (by decide) ?_
            refine j_aload_n (pc' := 104) (z := c) dX0_takeIn_103 rfl rfl ?_
            refine j_get (pc' := 107) (v := aR (c + 6)) dX0_takeIn_104 rfl f_Car_31 (by omega) ((up_n (by omega)).trans ((up_n (by omega)).trans ((up_n (by omega)).trans ((up_n (by omega)).trans ((up_n (by omega)).trans hO))))) rfl ?_
            refine j_aload_n (pc' := 108) (z := c) dX0_takeIn_107 rfl rfl ?_
            refine j_get (pc' := 111) (v := aI n) dX0_takeIn_108 rfl f_Car_37 (by omega) ((up_n (by omega)).trans ((up_n (by omega)).trans ((up_n (by omega)).trans ((up_n (by omega)).trans ((up_n (by omega)).trans hO))))) rfl ?_
            refine j_iconst (pc' := 112) dX0_takeIn_111 rfl ?_
            refine j_iast (pc' := 113) dX0_takeIn_112 rfl (by omega) ((up_n (by omega)).trans ((up_n (by omega)).trans ((up_n (by omega)).trans ((up_n (by omega)).trans ((up_n (by omega)).trans a6))))) (by omega) (by decide) ?_
            refine j_aload_n (pc' := 114) (z := c) dX0_takeIn_113 rfl rfl ?_
            refine j_dup (pc' := 115) dX0_takeIn_114 rfl rfl ?_
            refine j_get (pc' := 118) (v := aI n) dX0_takeIn_115 rfl f_Car_37 (by omega) ((up_n (by omega)).trans ((up_n (by omega)).trans ((up_n (by omega)).trans ((up_n (by omega)).trans ((up_n (by omega)).trans ((up_n (by omega)).trans hO)))))) rfl ?_
            refine j_iconst (pc' := 119) dX0_takeIn_118 rfl ?_
            refine j_iadd (pc' := 120) dX0_takeIn_119 rfl ?_
            refine j_putI (pc' := 123) dX0_takeIn_120 rfl p_Car_37 (by omega) ((up_n (by omega)).trans ((up_n (by omega)).trans ((up_n (by omega)).trans ((up_n (by omega)).trans ((up_n (by omega)).trans ((up_n (by omega)).trans hO)))))) (Nat.le_of_ble_eq_true rfl) ?_
            refine j_w (w' := up (up (up (up (up (up (up w (c + 1) (eI 7 (upi (D 0) n k))) (c + 2) (eI 7 (upi (D 1) n f))) (c + 3) (eI 7 (upi (D 2) n s))) (c + 4) (eI 7 (upi (D 3) n v))) (c + 5) (eI 7 (upi (D 4) n 0))) (c + 6) (eI 7 (upi (D 5) n 0))) c (eO 0 [aR 1, aR (c + 1), aR (c + 2), aR (c + 3), aR (c + 4), aR (c + 5), aR (c + 6), aR (c + 7), aI (n + 1), aI mi])) rfl ?_
            refine j_aload_n (pc' := 124) (z := c) dX0_takeIn_123 rfl rfl ?_
            refine j_get (pc' := 127) (v := aI (n + 1)) dX0_takeIn_124 rfl f_Car_37 (by omega) up_s rfl ?_
            refine j_iconst (pc' := 128) dX0_takeIn_127 rfl ?_
            refine j_isub (pc' := 129) dX0_takeIn_128 rfl ?_
            exact j_iret dX0_takeIn_129 rfl (rt_ew (by unfold tiR; (repeat' split) <;> first | rfl | omega) (by rw [show tiD D n k f s v = inD D n k f s v from if_pos (by omega), show tiN n k f s v = n + 1 from if_pos (by omega)]; unfold inD; apply carW_ext <;> first | (intro j9 hj9; simp only [up]; (repeat' split) <;> first | rfl | (exfalso; omega)) | simp [up, upD, *]))
          · refine j_bipush (pc' := 51) dX0_takeIn_49 rfl (by decide) ?_
            exact j_iret dX0_takeIn_51 rfl (rt_ew (by unfold tiR; (repeat' split) <;> first | rfl | omega) (by rw [show tiD D n k f s v = D from if_neg (by omega), show tiN n k f s v = n from if_neg (by omega)]; exact (carW_id hC0).symm))
        · refine j_iconst (pc' := 39) dX0_takeIn_38 rfl ?_
          exact j_iret dX0_takeIn_39 rfl (rt_ew (by unfold tiR; (repeat' split) <;> first | rfl | omega) (by rw [show tiD D n k f s v = D from if_neg (by omega), show tiN n k f s v = n from if_neg (by omega)]; exact (carW_id hC0).symm))
set_option maxRecDepth 100000 in
set_option maxHeartbeats 4000000 in
theorem jk_Car_screw_58 {l : Launch} {ad : Nat → Nat} {G : JG} {X : List (Nat × Nat × (Int → Int))} {Z : JZ} {L : List (Option AV)} {rest : List AV} {w : AW} {k : Int} (hK : KindsAt w) (hk : 0 ≤ k ∧ k ≤ 7)  (hcat : (rest.map jcat).sum ≤ 8) (kont : J l m_Car_screw ad G X false Z 68 0 0 61 L (aI (loos k) :: rest) w) : J l m_Car_screw ad G X false Z 68 0 0 58 L (aR (2 + k.toNat) :: rest) w := by
  obtain ⟨kk, t0, t1, t2, t3, t4, t5, t6, t7⟩ := hK
  rcases (show k = 0 ∨ k = 1 ∨ k = 2 ∨ k = 3 ∨ k = 4 ∨ k = 5 ∨ k = 6 ∨ k = 7 by omega) with rfl | rfl | rfl | rfl | rfl | rfl | rfl | rfl
  · refine j_callO (pc' := 61) (q := 2) (as := []) (rest := rest) (Mx := m_Part_loosensBy) dX0_screw_58 rfl s_Car_71_Part s_Car_71_Part c_Part_loosensBy (by decide) t0 rfl rfl rfl (by have h9 : decide ((rest.map jcat).sum ≤ 8) = true := decide_eq_true hcat; simp only [rmB, h9]; rfl) (jdet rfl ?_)
    exact j_top (by simp [loos]) kont
  · refine j_callO (pc' := 61) (q := 3) (as := []) (rest := rest) (Mx := m_Part_loosensBy) dX0_screw_58 rfl s_Car_71_Loose s_Car_71_Part (c_Loose_loosensBy (by decide) t1 rfl) (by decide) t1 rfl rfl rfl (by have h9 : decide ((rest.map jcat).sum ≤ 8) = true := decide_eq_true hcat; simp only [rmB, h9]; rfl) (jdet rfl ?_)
    exact j_top (by simp [loos]) kont
  · refine j_callO (pc' := 61) (q := 4) (as := []) (rest := rest) (Mx := m_Part_loosensBy) dX0_screw_58 rfl s_Car_71_Tinny s_Car_71_Part c_Part_loosensBy (by decide) t2 rfl rfl rfl (by have h9 : decide ((rest.map jcat).sum ≤ 8) = true := decide_eq_true hcat; simp only [rmB, h9]; rfl) (jdet rfl ?_)
    exact j_top (by simp [loos]) kont
  · refine j_callO (pc' := 61) (q := 5) (as := []) (rest := rest) (Mx := m_Part_loosensBy) dX0_screw_58 rfl s_Car_71_Frosty s_Car_71_Part (c_Loose_loosensBy (by decide) t3 rfl) (by decide) t3 rfl rfl rfl (by have h9 : decide ((rest.map jcat).sum ≤ 8) = true := decide_eq_true hcat; simp only [rmB, h9]; rfl) (jdet rfl ?_)
    exact j_top (by simp [loos]) kont
  · refine j_callO (pc' := 61) (q := 6) (as := []) (rest := rest) (Mx := m_Part_loosensBy) dX0_screw_58 rfl s_Car_71_Heavy s_Car_71_Part c_Part_loosensBy (by decide) t4 rfl rfl rfl (by have h9 : decide ((rest.map jcat).sum ≤ 8) = true := decide_eq_true hcat; simp only [rmB, h9]; rfl) (jdet rfl ?_)
    exact j_top (by simp [loos]) kont
  · refine j_callO (pc' := 61) (q := 7) (as := []) (rest := rest) (Mx := m_Part_loosensBy) dX0_screw_58 rfl s_Car_71_Doubled s_Car_71_Part c_Part_loosensBy (by decide) t5 rfl rfl rfl (by have h9 : decide ((rest.map jcat).sum ≤ 8) = true := decide_eq_true hcat; simp only [rmB, h9]; rfl) (jdet rfl ?_)
    exact j_top (by simp [loos]) kont
  · refine j_callO (pc' := 61) (q := 8) (as := []) (rest := rest) (Mx := m_Part_loosensBy) dX0_screw_58 rfl s_Car_71_Dead s_Car_71_Part c_Dead_loosensBy (by decide) t6 rfl rfl rfl (by have h9 : decide ((rest.map jcat).sum ≤ 8) = true := decide_eq_true hcat; simp only [rmB, h9]; rfl) (jdet rfl ?_)
    exact j_top (by simp [loos]) kont
  · refine j_callO (pc' := 61) (q := 9) (as := []) (rest := rest) (Mx := m_Part_loosensBy) dX0_screw_58 rfl s_Car_71_Deep s_Car_71_Part c_Part_loosensBy (by decide) t7 rfl rfl rfl (by have h9 : decide ((rest.map jcat).sum ≤ 8) = true := decide_eq_true hcat; simp only [rmB, h9]; rfl) (jdet rfl ?_)
    exact j_top (by simp [loos]) kont
set_option maxRecDepth 100000 in
set_option maxHeartbeats 4000000 in
theorem c_Car_screw {l : Launch} {w : AW} {c : Nat} {D : Int → Int → Int} {n mi : Int} {p : Int} (hC : CarAt w c D n mi) (hB : CarOK D n mi) (hK : KindsAt w) (hc : 10 ≤ c ∧ c + 8 ≤ 68) (hp : inI p) : Call l m_Car_screw false 68 68 [aR c, aI p] w (rt (some (aI (scrR D n p))) (carW w c (scwD D n p) n mi)) := by
  have hC0 := hC
  have hB0 := hB
  have hK0 := hK
  obtain ⟨hO, a1, a2, a3, a4, a5, a6, a7⟩ := hC
  obtain ⟨hn, hD, hs0, hs1, hs2, hs3⟩ := hB
  obtain ⟨kk, t0, t1, t2, t3, t4, t5, t6, t7⟩ := hK
  refine Call.of (L := [some (aR c), some (aI p), none]) rfl (Nat.le_of_ble_eq_true rfl) rfl (fun G ad => ?_)
  refine j_aload_n (pc' := 1) (z := c) dX0_screw_0 rfl rfl ?_
  refine j_iload_n (pc' := 2) (z := p) dX0_screw_1 rfl rfl ?_
  refine j_callV (pc' := 5) (as := [aI p]) (rest := []) dX0_screw_2 rfl s_Car_58 (c_Car_has hC0 hB0 hc (by omega)) (by omega) hO rfl rfl rfl rfl (jdet (st' := [aB (0 ≤ p ∧ p < n)]) rfl ?_)
  refine j_ifb_ne (tgt := 10) (pc' := 8) dX0_screw_5 (by decide) rfl (fun h5 => ?_) (fun h5 => ?_)
  · have hDp := hD p (by omega) (by omega)
    refine j_aload_n (pc' := 11) (z := c) dX0_screw_10 rfl rfl ?_
    refine j_get (pc' := 14) (v := aR (c + 2)) dX0_screw_11 rfl f_Car_19 (by omega) hO rfl ?_
    refine j_iload_n (pc' := 15) (z := p) dX0_screw_14 rfl rfl ?_
    refine j_iconst (pc' := 16) dX0_screw_15 rfl ?_
    refine j_iast (pc' := 17) dX0_screw_16 rfl (by omega) a2 (by omega) (by decide) ?_
    have ct35 : ∀ (x : Int), (x = nxt n p) → (0 ≤ x ∧ x < n) → J l m_Car_screw ad G [] false (jZ ad G false 68 m_Car_screw.2.2.2.2.cells m_Car_screw.2.2.2.2.slots (rt (some (aI (scrR D n p))) (carW w c (scwD D n p) n mi))) 68 0 0 35 [some (aR c), some (aI p), some (aI x)] [] (up w (c + 2) (eI 7 (upi (D 1) p 0))) := by
      intro x hx hxn
      refine j_iload_n (pc' := 36) (z := x) dX0_screw_35 rfl rfl ?_
      refine j_iload_n (pc' := 37) (z := p) dX0_screw_36 rfl rfl ?_
      refine j_icmp_eq (tgt := 66) (pc' := 40) dX0_screw_37 (by decide) rfl (by omega) (by omega) (fun h37 => ?_) (fun h37 => ?_)
      · refine j_aload_n (pc' := 67) (z := c) dX0_screw_66 rfl rfl ?_
        refine j_get (pc' := 70) (v := aR (c + 2)) dX0_screw_67 rfl f_Car_19 (by omega) ((up_n (by omega)).trans hO) rfl ?_
        refine j_iload_n (pc' := 71) (z := x) dX0_screw_70 rfl rfl ?_
        refine j_iald (pc' := 72) dX0_screw_71 rfl (by omega) up_s (by omega) (by decide) ?_
        exact j_iret dX0_screw_72 rfl (rt_ew (by first | rw [show scrR D n p = scrD D n p 1 (nxt n p) from if_pos (by omega), show scrD D n p = upD D 1 p 0 from if_pos (by omega), upD_s, hx] | rw [show scrR D n p = scrD D n p 1 (nxt n p) from if_pos (by omega), show scrD D n p = upD (upD D 1 p 0) 1 (nxt n p) (min 9 (D 1 (nxt n p) + loos (D 0 (nxt n p)))) from if_neg (by omega), upD_s, ← hx, upi_s, upi_s, hux]) (by rw [show scwD D n p = scrD D n p from if_pos (by omega)]; first | (rw [show scrD D n p = upD D 1 p 0 from if_pos (by omega)]; apply carW_ext <;> first | (intro j9 hj9; simp only [up]; (repeat' split) <;> first | rfl | (exfalso; omega)) | simp [up, upD, *]) | (rw [hux, show scrD D n p = upD (upD D 1 p 0) 1 (nxt n p) (min 9 (D 1 (nxt n p) + loos (D 0 (nxt n p)))) from if_neg (by omega), ← hx]; clear hx; apply carW_ext <;> first | (intro j9 hj9; simp only [up]; (repeat' split) <;> first | rfl | (exfalso; omega)) | simp [up, upD, *])))
      · have hDx := hD x (by omega) (by omega)
        have hlx := loos_bd (k := D 0 x)
        have hux : upi (D 1) p 0 x = D 1 x := upi_n (by omega)
        refine j_aload_n (pc' := 41) (z := c) dX0_screw_40 rfl rfl ?_
        refine j_get (pc' := 44) (v := aR (c + 2)) dX0_screw_41 rfl f_Car_19 (by omega) ((up_n (by omega)).trans hO) rfl ?_
        refine j_iload_n (pc' := 45) (z := x) dX0_screw_44 rfl rfl ?_
        refine j_bipush (pc' := 47) dX0_screw_45 rfl (by decide) ?_
        refine j_aload_n (pc' := 48) (z := c) dX0_screw_47 rfl rfl ?_
        refine j_get (pc' := 51) (v := aR (c + 2)) dX0_screw_48 rfl f_Car_19 (by omega) ((up_n (by omega)).trans hO) rfl ?_
        refine j_iload_n (pc' := 52) (z := x) dX0_screw_51 rfl rfl ?_
        refine j_iald (pc' := 53) dX0_screw_52 rfl (by omega) up_s (by omega) (by decide) ?_
        refine j_aload_n (pc' := 54) (z := c) dX0_screw_53 rfl rfl ?_
        refine j_iload_n (pc' := 55) (z := x) dX0_screw_54 rfl rfl ?_
        refine j_callV (pc' := 58) (as := [aI x]) (rest := [aI ((upi (D 1) p 0) x), aI 9, aI x, aR (c + 2)]) dX0_screw_55 rfl s_Car_61 (c_Car_kindOf_w ((up_n (by omega)).trans hO) ((up_n (by omega)).trans a1) ((up_n (by omega)).trans kk) hB0 hc (p := x) (by omega)) (by omega) ((up_n (by omega)).trans hO) rfl rfl rfl rfl (jdet (st' := [aR (2 + (D 0 x).toNat), aI ((upi (D 1) p 0) x), aI 9, aI x, aR (c + 2)]) rfl ?_)
        refine jk_Car_screw_58 (k := D 0 x) (KindsAt_up hK0 (by omega)) (by omega)  (Nat.le_of_ble_eq_true rfl) ?_
        refine j_iadd (pc' := 62) dX0_screw_61 rfl ?_
        refine j_mmin (pc' := 65) dX0_screw_62 rfl s_Car_75 rfl (by omega) (by omega) ?_
        refine j_iast (pc' := 66) dX0_screw_65 rfl (by omega) up_s (by omega) (by decide) ?_
        refine j_w (w' := up w (c + 2) (eI 7 (upi (upi (D 1) p 0) x (min 9 (((upi (D 1) p 0) x) + (loos (D 0 x))))))) (by funext j9; simp only [up]; (repeat' split) <;> first | rfl | (exfalso; omega)) ?_
        refine j_aload_n (pc' := 67) (z := c) dX0_screw_66 rfl rfl ?_
        refine j_get (pc' := 70) (v := aR (c + 2)) dX0_screw_67 rfl f_Car_19 (by omega) ((up_n (by omega)).trans hO) rfl ?_
        refine j_iload_n (pc' := 71) (z := x) dX0_screw_70 rfl rfl ?_
        refine j_iald (pc' := 72) dX0_screw_71 rfl (by omega) up_s (by omega) (by decide) ?_
        exact j_iret dX0_screw_72 rfl (rt_ew (by first | rw [show scrR D n p = scrD D n p 1 (nxt n p) from if_pos (by omega), show scrD D n p = upD D 1 p 0 from if_pos (by omega), upD_s, hx] | rw [show scrR D n p = scrD D n p 1 (nxt n p) from if_pos (by omega), show scrD D n p = upD (upD D 1 p 0) 1 (nxt n p) (min 9 (D 1 (nxt n p) + loos (D 0 (nxt n p)))) from if_neg (by omega), upD_s, ← hx, upi_s, upi_s, hux]) (by rw [show scwD D n p = scrD D n p from if_pos (by omega)]; first | (rw [show scrD D n p = upD D 1 p 0 from if_pos (by omega)]; apply carW_ext <;> first | (intro j9 hj9; simp only [up]; (repeat' split) <;> first | rfl | (exfalso; omega)) | simp [up, upD, *]) | (rw [hux, show scrD D n p = upD (upD D 1 p 0) 1 (nxt n p) (min 9 (D 1 (nxt n p) + loos (D 0 (nxt n p)))) from if_neg (by omega), ← hx]; clear hx; apply carW_ext <;> first | (intro j9 hj9; simp only [up]; (repeat' split) <;> first | rfl | (exfalso; omega)) | simp [up, upD, *])))
    refine j_iload_n (pc' := 18) (z := p) dX0_screw_17 rfl rfl ?_
    refine j_iconst (pc' := 19) dX0_screw_18 rfl ?_
    refine j_iadd (pc' := 20) dX0_screw_19 rfl ?_
    refine j_aload_n (pc' := 21) (z := c) dX0_screw_20 rfl rfl ?_
    refine j_get (pc' := 24) (v := aI n) dX0_screw_21 rfl f_Car_37 (by omega) ((up_n (by omega)).trans hO) rfl ?_
    refine j_icmp_ge (tgt := 33) (pc' := 27) dX0_screw_24 (by decide) rfl (by omega) (by omega) (fun h24 => ?_) (fun h24 => ?_)
    · refine j_iconst (pc' := 34) dX0_screw_33 rfl ?_
      refine j_istore_n (pc' := 35) (L' := [some (aR c), some (aI p), some (aI 0)]) dX0_screw_34 rfl (by decide) rfl ?_
      exact ct35 0 (by unfold nxt; split <;> omega) (by omega)
    · refine j_iload_n (pc' := 28) (z := p) dX0_screw_27 rfl rfl ?_
      refine j_iconst (pc' := 29) dX0_screw_28 rfl ?_
      refine j_iadd (pc' := 30) dX0_screw_29 rfl ?_
      refine j_goto (pc' := 34) dX0_screw_30 (by decide) ?_
      refine j_istore_n (pc' := 35) (L' := [some (aR c), some (aI p), some (aI (p + 1))]) dX0_screw_34 rfl (by decide) rfl ?_
      exact ct35 (p + 1) (by unfold nxt; split <;> omega) (by omega)
  · refine j_iconst (pc' := 9) dX0_screw_8 rfl ?_
    exact j_iret dX0_screw_9 rfl (rt_ew (by unfold scrR; (repeat' split) <;> first | rfl | omega) (by rw [show scwD D n p = D from if_neg (by omega)]; exact (carW_id hC0).symm))
set_option maxRecDepth 100000 in
set_option maxHeartbeats 4000000 in
theorem c_Car_secondsOf {l : Launch} {w : AW} {c : Nat} {D : Int → Int → Int} {n mi : Int} {set : Int} (hC : CarAt w c D n mi) (hB : CarOK D n mi) (hK : KindsAt w) (hc : 10 ≤ c ∧ c + 8 ≤ 68) (hset : 0 ≤ set ∧ set ≤ 127) : Call l m_Car_secondsOf false 68 68 [aR c, aI set] w (rt (some (aI (secO D n set))) w) := by
  have hC0 := hC
  have hB0 := hB
  have hK0 := hK
  obtain ⟨hO, a1, a2, a3, a4, a5, a6, a7⟩ := hC
  obtain ⟨hn, hD, hs0, hs1, hs2, hs3⟩ := hB
  obtain ⟨kk, t0, t1, t2, t3, t4, t5, t6, t7⟩ := hK
  refine Call.of (L := [some (aR c), some (aI set), none, none]) rfl (Nat.le_of_ble_eq_true rfl) rfl (fun G ad => ?_)
  refine j_iconst (pc' := 1) dX0_secondsOf_0 rfl ?_
  refine j_istore_n (pc' := 2) (L' := [some (aR c), some (aI set), some (aI 0), none]) dX0_secondsOf_1 rfl (by decide) rfl ?_
  refine j_iconst (pc' := 3) dX0_secondsOf_2 rfl ?_
  refine j_istore_n (pc' := 4) (L' := [some (aR c), some (aI set), some (aI 0), some (aI 0)]) dX0_secondsOf_3 rfl (by decide) rfl ?_
  have lp4 : ∀ (k9 : Nat) (v : Int) (i : Int), (0 ≤ i ∧ i ≤ n) → (v = secO D i set) → ((n - i).toNat) = k9 → J l m_Car_secondsOf ad G [] false (jZ ad G false 68 m_Car_secondsOf.2.2.2.2.cells m_Car_secondsOf.2.2.2.2.slots (rt (some (aI (secO D n set))) w)) 68 0 0 4 [some (aR c), some (aI set), some (aI v), some (aI i)] [] w := by
    intro k9
    induction k9 using Nat.strongRecOn with
    | _ k9 ih4 =>
      intro v i hi hv hk4
      refine j_iload_n (pc' := 5) (z := i) dX0_secondsOf_4 rfl rfl ?_
      refine j_aload_n (pc' := 6) (z := c) dX0_secondsOf_5 rfl rfl ?_
      refine j_get (pc' := 9) (v := aI n) dX0_secondsOf_6 rfl f_Car_37 (by omega) hO rfl ?_
      refine j_icmp_ge (tgt := 39) (pc' := 12) dX0_secondsOf_9 (by decide) rfl (by omega) (by omega) (fun h9 => ?_) (fun h9 => ?_)
      · refine j_iload_n (pc' := 40) (z := v) dX0_secondsOf_39 rfl rfl ?_
        exact j_iret dX0_secondsOf_40 rfl (rt_eq (by rw [hv, show i = n by omega]))
      · refine j_iload_n (pc' := 13) (z := v) dX0_secondsOf_12 rfl rfl ?_
        refine j_iload_n (pc' := 14) (z := set) dX0_secondsOf_13 rfl rfl ?_
        refine j_iload_n (pc' := 15) (z := i) dX0_secondsOf_14 rfl rfl ?_
        refine j_ishr (pc' := 16) dX0_secondsOf_15 rfl (by omega) (by omega) ?_
        refine j_iconst (pc' := 17) dX0_secondsOf_16 rfl ?_
        refine j_imask (pc' := 18) 1 dX0_secondsOf_17 rfl (by decide) rfl ?_
        refine j_iconst (pc' := 19) dX0_secondsOf_18 rfl ?_
        have hbt : bt set i = set / 2 ^ (Int.toNat i) % 2 ^ 1 := rfl
        refine j_icmp_ne (tgt := 30) (pc' := 22) dX0_secondsOf_19 (by decide) rfl (by omega) (by omega) (fun h19 => ?_) (fun h19 => ?_)
        · refine j_iconst (pc' := 31) dX0_secondsOf_30 rfl ?_
          refine j_iadd (pc' := 32) dX0_secondsOf_31 rfl ?_
          refine j_istore_n (pc' := 33) (L' := [some (aR c), some (aI set), some (aI (v + 0)), some (aI i)]) dX0_secondsOf_32 rfl (by decide) rfl ?_
          refine j_iinc (pc' := 36) (z := i) (L' := [some (aR c), some (aI set), some (aI (v + 0)), some (aI (i + 1))]) dX0_secondsOf_33 rfl (by decide) rfl rfl rfl ?_
          refine j_goto (pc' := 4) dX0_secondsOf_36 (by decide) ?_
          exact ih4 _ (by omega) (v + 0) (i + 1) (by omega) (by unfold secO at hv ⊢; rw [sumI_s (by omega), ← hv]; split <;> omega) rfl
        · refine j_aload_n (pc' := 23) (z := c) dX0_secondsOf_22 rfl rfl ?_
          refine j_iload_n (pc' := 24) (z := i) dX0_secondsOf_23 rfl rfl ?_
          refine j_callV (pc' := 27) (as := [aI i]) (rest := [aI v]) dX0_secondsOf_24 rfl s_Car_123 (c_Car_seconds hC0 hB0 hK0 hc (by omega)) (by omega) hO rfl rfl rfl rfl (jdet (st' := [aI (secs (D 0 i) (D 1 i)), aI v]) rfl ?_)
          refine j_goto (pc' := 31) dX0_secondsOf_27 (by decide) ?_
          refine j_iadd (pc' := 32) dX0_secondsOf_31 rfl ?_
          refine j_istore_n (pc' := 33) (L' := [some (aR c), some (aI set), some (aI (v + (secs (D 0 i) (D 1 i)))), some (aI i)]) dX0_secondsOf_32 rfl (by decide) rfl ?_
          refine j_iinc (pc' := 36) (z := i) (L' := [some (aR c), some (aI set), some (aI (v + (secs (D 0 i) (D 1 i)))), some (aI (i + 1))]) dX0_secondsOf_33 rfl (by decide) rfl rfl rfl ?_
          refine j_goto (pc' := 4) dX0_secondsOf_36 (by decide) ?_
          exact ih4 _ (by omega) (v + (secs (D 0 i) (D 1 i))) (i + 1) (by omega) (by unfold secO at hv ⊢; rw [sumI_s (by omega), ← hv]; split <;> omega) rfl
  exact lp4 _ 0 0 (by omega) (by rfl) rfl
set_option maxRecDepth 100000 in
set_option maxHeartbeats 4000000 in
theorem c_Car_weightOf {l : Launch} {w : AW} {c : Nat} {D : Int → Int → Int} {n mi : Int} {set : Int} (hC : CarAt w c D n mi) (hB : CarOK D n mi) (hK : KindsAt w) (hc : 10 ≤ c ∧ c + 8 ≤ 68) (hset : 0 ≤ set ∧ set ≤ 127) : Call l m_Car_weightOf false 68 68 [aR c, aI set] w (rt (some (aI (wts D n set))) w) := by
  have hC0 := hC
  have hB0 := hB
  have hK0 := hK
  obtain ⟨hO, a1, a2, a3, a4, a5, a6, a7⟩ := hC
  obtain ⟨hn, hD, hs0, hs1, hs2, hs3⟩ := hB
  obtain ⟨kk, t0, t1, t2, t3, t4, t5, t6, t7⟩ := hK
  refine Call.of (L := [some (aR c), some (aI set), none, none]) rfl (Nat.le_of_ble_eq_true rfl) rfl (fun G ad => ?_)
  refine j_iconst (pc' := 1) dX0_weightOf_0 rfl ?_
  refine j_istore_n (pc' := 2) (L' := [some (aR c), some (aI set), some (aI 0), none]) dX0_weightOf_1 rfl (by decide) rfl ?_
  refine j_iconst (pc' := 3) dX0_weightOf_2 rfl ?_
  refine j_istore_n (pc' := 4) (L' := [some (aR c), some (aI set), some (aI 0), some (aI 0)]) dX0_weightOf_3 rfl (by decide) rfl ?_
  have lp4 : ∀ (k9 : Nat) (v : Int) (i : Int), (0 ≤ i ∧ i ≤ n) → (v = wts D i set) → ((n - i).toNat) = k9 → J l m_Car_weightOf ad G [] false (jZ ad G false 68 m_Car_weightOf.2.2.2.2.cells m_Car_weightOf.2.2.2.2.slots (rt (some (aI (wts D n set))) w)) 68 0 0 4 [some (aR c), some (aI set), some (aI v), some (aI i)] [] w := by
    intro k9
    induction k9 using Nat.strongRecOn with
    | _ k9 ih4 =>
      intro v i hi hv hk4
      refine j_iload_n (pc' := 5) (z := i) dX0_weightOf_4 rfl rfl ?_
      refine j_aload_n (pc' := 6) (z := c) dX0_weightOf_5 rfl rfl ?_
      refine j_get (pc' := 9) (v := aI n) dX0_weightOf_6 rfl f_Car_37 (by omega) hO rfl ?_
      refine j_icmp_ge (tgt := 40) (pc' := 12) dX0_weightOf_9 (by decide) rfl (by omega) (by omega) (fun h9 => ?_) (fun h9 => ?_)
      · refine j_iload_n (pc' := 41) (z := v) dX0_weightOf_40 rfl rfl ?_
        exact j_iret dX0_weightOf_41 rfl (rt_eq (by rw [hv, show i = n by omega]))
      · refine j_iload_n (pc' := 13) (z := v) dX0_weightOf_12 rfl rfl ?_
        refine j_iload_n (pc' := 14) (z := set) dX0_weightOf_13 rfl rfl ?_
        refine j_iload_n (pc' := 15) (z := i) dX0_weightOf_14 rfl rfl ?_
        refine j_ishr (pc' := 16) dX0_weightOf_15 rfl (by omega) (by omega) ?_
        refine j_iconst (pc' := 17) dX0_weightOf_16 rfl ?_
        refine j_imask (pc' := 18) 1 dX0_weightOf_17 rfl (by decide) rfl ?_
        refine j_iconst (pc' := 19) dX0_weightOf_18 rfl ?_
        have hbt : bt set i = set / 2 ^ (Int.toNat i) % 2 ^ 1 := rfl
        refine j_icmp_ne (tgt := 31) (pc' := 22) dX0_weightOf_19 (by decide) rfl (by omega) (by omega) (fun h19 => ?_) (fun h19 => ?_)
        · refine j_iconst (pc' := 32) dX0_weightOf_31 rfl ?_
          refine j_iadd (pc' := 33) dX0_weightOf_32 rfl ?_
          refine j_istore_n (pc' := 34) (L' := [some (aR c), some (aI set), some (aI (v + 0)), some (aI i)]) dX0_weightOf_33 rfl (by decide) rfl ?_
          refine j_iinc (pc' := 37) (z := i) (L' := [some (aR c), some (aI set), some (aI (v + 0)), some (aI (i + 1))]) dX0_weightOf_34 rfl (by decide) rfl rfl rfl ?_
          refine j_goto (pc' := 4) dX0_weightOf_37 (by decide) ?_
          exact ih4 _ (by omega) (v + 0) (i + 1) (by omega) (by unfold wts at hv ⊢; rw [sumI_s (by omega), ← hv]; split <;> omega) rfl
        · refine j_aload_n (pc' := 23) (z := c) dX0_weightOf_22 rfl rfl ?_
          refine j_get (pc' := 26) (v := aR (c + 4)) dX0_weightOf_23 rfl f_Car_25 (by omega) hO rfl ?_
          refine j_iload_n (pc' := 27) (z := i) dX0_weightOf_26 rfl rfl ?_
          refine j_iald (pc' := 28) dX0_weightOf_27 rfl (by omega) a4 (by omega) (by decide) ?_
          refine j_goto (pc' := 32) dX0_weightOf_28 (by decide) ?_
          refine j_iadd (pc' := 33) dX0_weightOf_32 rfl ?_
          refine j_istore_n (pc' := 34) (L' := [some (aR c), some (aI set), some (aI (v + (D 3 i))), some (aI i)]) dX0_weightOf_33 rfl (by decide) rfl ?_
          refine j_iinc (pc' := 37) (z := i) (L' := [some (aR c), some (aI set), some (aI (v + (D 3 i))), some (aI (i + 1))]) dX0_weightOf_34 rfl (by decide) rfl rfl rfl ?_
          refine j_goto (pc' := 4) dX0_weightOf_37 (by decide) ?_
          exact ih4 _ (by omega) (v + (D 3 i)) (i + 1) (by omega) (by unfold wts at hv ⊢; rw [sumI_s (by omega), ← hv]; split <;> omega) rfl
  exact lp4 _ 0 0 (by omega) (by rfl) rfl
set_option maxRecDepth 100000 in
set_option maxHeartbeats 4000000 in
theorem c_Car_allFigures {l : Launch} {w : AW} {c : Nat} {D : Int → Int → Int} {n mi : Int}  (hC : CarAt w c D n mi) (hB : CarOK D n mi) (hK : KindsAt w) (hc : 10 ≤ c ∧ c + 8 ≤ 68)  : Call l m_Car_allFigures false 68 68 [aR c] w (rt (some (aI (figs D n))) w) := by
  have hC0 := hC
  have hB0 := hB
  have hK0 := hK
  obtain ⟨hO, a1, a2, a3, a4, a5, a6, a7⟩ := hC
  obtain ⟨hn, hD, hs0, hs1, hs2, hs3⟩ := hB
  obtain ⟨kk, t0, t1, t2, t3, t4, t5, t6, t7⟩ := hK
  refine Call.of (L := [some (aR c), none, none]) rfl (Nat.le_of_ble_eq_true rfl) rfl (fun G ad => ?_)
  refine j_iconst (pc' := 1) dX0_allFigures_0 rfl ?_
  refine j_istore_n (pc' := 2) (L' := [some (aR c), some (aI 0), none]) dX0_allFigures_1 rfl (by decide) rfl ?_
  refine j_iconst (pc' := 3) dX0_allFigures_2 rfl ?_
  refine j_istore_n (pc' := 4) (L' := [some (aR c), some (aI 0), some (aI 0)]) dX0_allFigures_3 rfl (by decide) rfl ?_
  have lp4 : ∀ (k9 : Nat) (v : Int) (i : Int), (0 ≤ i ∧ i ≤ n) → (v = figs D i) → ((n - i).toNat) = k9 → J l m_Car_allFigures ad G [] false (jZ ad G false 68 m_Car_allFigures.2.2.2.2.cells m_Car_allFigures.2.2.2.2.slots (rt (some (aI (figs D n))) w)) 68 0 0 4 [some (aR c), some (aI v), some (aI i)] [] w := by
    intro k9
    induction k9 using Nat.strongRecOn with
    | _ k9 ih4 =>
      intro v i hi hv hk4
      refine j_iload_n (pc' := 5) (z := i) dX0_allFigures_4 rfl rfl ?_
      refine j_aload_n (pc' := 6) (z := c) dX0_allFigures_5 rfl rfl ?_
      refine j_get (pc' := 9) (v := aI n) dX0_allFigures_6 rfl f_Car_37 (by omega) hO rfl ?_
      refine j_icmp_ge (tgt := 27) (pc' := 12) dX0_allFigures_9 (by decide) rfl (by omega) (by omega) (fun h9 => ?_) (fun h9 => ?_)
      · refine j_iload_n (pc' := 28) (z := v) dX0_allFigures_27 rfl rfl ?_
        exact j_iret dX0_allFigures_28 rfl (rt_eq (by rw [hv, show i = n by omega]))
      · refine j_iload_n (pc' := 13) (z := v) dX0_allFigures_12 rfl rfl ?_
        refine j_aload_n (pc' := 14) (z := c) dX0_allFigures_13 rfl rfl ?_
        refine j_get (pc' := 17) (v := aR (c + 2)) dX0_allFigures_14 rfl f_Car_19 (by omega) hO rfl ?_
        refine j_iload_n (pc' := 18) (z := i) dX0_allFigures_17 rfl rfl ?_
        refine j_iald (pc' := 19) dX0_allFigures_18 rfl (by omega) a2 (by omega) (by decide) ?_
        refine j_iadd (pc' := 20) dX0_allFigures_19 rfl ?_
        refine j_istore_n (pc' := 21) (L' := [some (aR c), some (aI (v + (D 1 i))), some (aI i)]) dX0_allFigures_20 rfl (by decide) rfl ?_
        refine j_iinc (pc' := 24) (z := i) (L' := [some (aR c), some (aI (v + (D 1 i))), some (aI (i + 1))]) dX0_allFigures_21 rfl (by decide) rfl rfl rfl ?_
        refine j_goto (pc' := 4) dX0_allFigures_24 (by decide) ?_
        exact ih4 _ (by omega) (v + (D 1 i)) (i + 1) (by omega) (by unfold figs at hv ⊢; rw [sumI_s (by omega), ← hv]) rfl
  exact lp4 _ 0 0 (by omega) (by rfl) rfl
set_option maxRecDepth 100000 in
set_option maxHeartbeats 4000000 in
theorem c_Car_loudestAt {l : Launch} {w : AW} {c : Nat} {D : Int → Int → Int} {n mi : Int} {seat : Int} (hC : CarAt w c D n mi) (hB : CarOK D n mi) (hK : KindsAt w) (hc : 10 ≤ c ∧ c + 8 ≤ 68) (hse : 0 ≤ seat ∧ seat ≤ 3) : Call l m_Car_loudestAt false 68 68 [aR c, aI seat] w (rt (some (aI ((lst D n seat).1))) w) := by
  have hC0 := hC
  have hB0 := hB
  have hK0 := hK
  obtain ⟨hO, a1, a2, a3, a4, a5, a6, a7⟩ := hC
  obtain ⟨hn, hD, hs0, hs1, hs2, hs3⟩ := hB
  obtain ⟨kk, t0, t1, t2, t3, t4, t5, t6, t7⟩ := hK
  refine Call.of (L := [some (aR c), some (aI seat), none, none, none, none]) rfl (Nat.le_of_ble_eq_true rfl) rfl (fun G ad => ?_)
  refine j_bipush (pc' := 2) dX0_loudestAt_0 rfl (by decide) ?_
  refine j_istore_n (pc' := 3) (L' := [some (aR c), some (aI seat), some (aI (-4)), none, none, none]) dX0_loudestAt_2 rfl (by decide) rfl ?_
  refine j_iconst (pc' := 4) dX0_loudestAt_3 rfl ?_
  refine j_istore_n (pc' := 5) (L' := [some (aR c), some (aI seat), some (aI (-4)), some (aI 0), none, none]) dX0_loudestAt_4 rfl (by decide) rfl ?_
  refine j_iconst (pc' := 6) dX0_loudestAt_5 rfl ?_
  refine j_istore (pc' := 8) (L' := [some (aR c), some (aI seat), some (aI (-4)), some (aI 0), some (aI 0), none]) dX0_loudestAt_6 rfl (by decide) rfl ?_
  have lp8 : ∀ (k9 : Nat) (b : Int) (v : Int) (i : Int), (0 ≤ i ∧ i ≤ n) → ((b, v) = lst D i seat) → (0 ≤ v ∧ v ≤ 21) → ((n - i).toNat) = k9 → J l m_Car_loudestAt ad G [] false (jZ ad G false 68 m_Car_loudestAt.2.2.2.2.cells m_Car_loudestAt.2.2.2.2.slots (rt (some (aI ((lst D n seat).1))) w)) 68 0 0 8 [some (aR c), some (aI seat), some (aI b), some (aI v), some (aI i), none] [] w := by
    intro k9
    induction k9 using Nat.strongRecOn with
    | _ k9 ih8 =>
      intro b v i hi hv hvb hk8
      refine j_iload (pc' := 10) (z := i) dX0_loudestAt_8 rfl rfl ?_
      refine j_aload_n (pc' := 11) (z := c) dX0_loudestAt_10 rfl rfl ?_
      refine j_get (pc' := 14) (v := aI n) dX0_loudestAt_11 rfl f_Car_37 (by omega) hO rfl ?_
      refine j_icmp_ge (tgt := 50) (pc' := 17) dX0_loudestAt_14 (by decide) rfl (by omega) (by omega) (fun h14 => ?_) (fun h14 => ?_)
      · refine j_iload_n (pc' := 51) (z := b) dX0_loudestAt_50 rfl rfl ?_
        exact j_iret dX0_loudestAt_51 rfl (rt_eq (by rw [show i = n by omega] at hv; rw [← hv]))
      · refine j_aload_n (pc' := 18) (z := c) dX0_loudestAt_17 rfl rfl ?_
        refine j_iload (pc' := 20) (z := i) dX0_loudestAt_18 rfl rfl ?_
        refine j_iload_n (pc' := 21) (z := seat) dX0_loudestAt_20 rfl rfl ?_
        refine j_aload_n (pc' := 22) (z := c) dX0_loudestAt_21 rfl rfl ?_
        refine j_get (pc' := 25) (v := aR (c + 7)) dX0_loudestAt_22 rfl f_Car_34 (by omega) hO rfl ?_
        refine j_iconst (pc' := 26) dX0_loudestAt_25 rfl ?_
        refine j_iald (pc' := 27) dX0_loudestAt_26 rfl (by omega) a7 (by omega) (by decide) ?_
        refine j_callV (pc' := 30) (as := [aI i, aI seat, aI (D 6 0)]) (rest := []) dX0_loudestAt_27 rfl s_Car_108 (c_Car_soundThere hC0 hB0 hK0 hc (by omega) hse (by omega)) (by omega) hO rfl rfl rfl rfl (jdet (st' := [aI (snd D i seat (D 6 0))]) rfl ?_)
        refine j_istore (pc' := 32) (L' := [some (aR c), some (aI seat), some (aI b), some (aI v), some (aI i), some (aI (snd D i seat (D 6 0)))]) dX0_loudestAt_30 rfl (by decide) rfl ?_
        refine j_iload (pc' := 34) (z := (snd D i seat (D 6 0))) dX0_loudestAt_32 rfl rfl ?_
        refine j_iload_n (pc' := 35) (z := v) dX0_loudestAt_34 rfl rfl ?_
        have hsb := snd_bd (D := D) (p := i) (seat := seat) (pace := D 6 0) (hD i (by omega) (by omega)).2.1 hs2.1
        refine j_icmp_le (tgt := 44) (pc' := 38) dX0_loudestAt_35 (by decide) rfl (by omega) (by omega) (fun h35 => ?_) (fun h35 => ?_)
        · refine j_iinc (pc' := 47) (z := i) (L' := [some (aR c), some (aI seat), some (aI b), some (aI v), some (aI (i + 1)), some (aI (snd D i seat (D 6 0)))]) dX0_loudestAt_44 rfl (by decide) rfl rfl rfl ?_
          refine j_goto (pc' := 8) dX0_loudestAt_47 (by decide) ?_
          refine j_forget 5 (L' := [some (aR c), some (aI seat), some (aI b), some (aI v), some (aI (i + 1)), none]) rfl ?_
          exact ih8 _ (by omega) b v (i + 1) (by omega) (by unfold lst at hv ⊢; rw [foldI_s (by omega), ← hv]; first | rw [if_pos (by omega)] | rw [if_neg (by omega)]) (by omega) rfl
        · refine j_iload (pc' := 40) (z := (snd D i seat (D 6 0))) dX0_loudestAt_38 rfl rfl ?_
          refine j_istore_n (pc' := 41) (L' := [some (aR c), some (aI seat), some (aI b), some (aI (snd D i seat (D 6 0))), some (aI i), some (aI (snd D i seat (D 6 0)))]) dX0_loudestAt_40 rfl (by decide) rfl ?_
          refine j_iload (pc' := 43) (z := i) dX0_loudestAt_41 rfl rfl ?_
          refine j_istore_n (pc' := 44) (L' := [some (aR c), some (aI seat), some (aI i), some (aI (snd D i seat (D 6 0))), some (aI i), some (aI (snd D i seat (D 6 0)))]) dX0_loudestAt_43 rfl (by decide) rfl ?_
          refine j_iinc (pc' := 47) (z := i) (L' := [some (aR c), some (aI seat), some (aI i), some (aI (snd D i seat (D 6 0))), some (aI (i + 1)), some (aI (snd D i seat (D 6 0)))]) dX0_loudestAt_44 rfl (by decide) rfl rfl rfl ?_
          refine j_goto (pc' := 8) dX0_loudestAt_47 (by decide) ?_
          refine j_forget 5 (L' := [some (aR c), some (aI seat), some (aI i), some (aI (snd D i seat (D 6 0))), some (aI (i + 1)), none]) rfl ?_
          exact ih8 _ (by omega) i (snd D i seat (D 6 0)) (i + 1) (by omega) (by unfold lst at hv ⊢; rw [foldI_s (by omega), ← hv]; first | rw [if_pos (by omega)] | rw [if_neg (by omega)]) (by omega) rfl
  exact lp8 _ (-4) 0 0 (by omega) (by rfl) (by omega) rfl
