theorem andn_bd {a b : Int} (ha : 0 ≤ a ∧ a ≤ 127) : 0 ≤ andn a b ∧ andn a b ≤ 127 := by
  unfold andn
  have h1 : a.toNat &&& b.toNat < 2 ^ 7 := Nat.lt_of_le_of_lt Nat.and_le_left (by omega)
  have := Nat.xor_lt_two_pow (x := a.toNat) (y := a.toNat &&& b.toNat) (n := 7) (by omega) h1
  omega
theorem andI_bd {a b : Int} (ha : 0 ≤ a ∧ a ≤ 127) (hb : 0 ≤ b) : 0 ≤ andI a b ∧ andI a b ≤ 127 := by
  unfold andI
  have := Nat.and_le_left (n := a.toNat) (m := b.toNat)
  omega
theorem k_Integer_265 : Cond.constant "java/lang/Integer" 265 (1431655765) ∈ gT := gt_ps (ws := [.constant "java/lang/Integer" 265 (1431655765)]) [530] (by decide +kernel) (by decide +kernel) _ List.mem_cons_self
theorem k_Integer_266 : Cond.constant "java/lang/Integer" 266 (858993459) ∈ gT := gt_ps (ws := [.constant "java/lang/Integer" 266 (858993459)]) [531] (by decide +kernel) (by decide +kernel) _ List.mem_cons_self
theorem k_Integer_267 : Cond.constant "java/lang/Integer" 267 (252645135) ∈ gT := gt_ps (ws := [.constant "java/lang/Integer" 267 (252645135)]) [532] (by decide +kernel) (by decide +kernel) _ List.mem_cons_self
set_option maxRecDepth 100000 in
set_option maxHeartbeats 4000000 in
theorem c_bitCount {l : Launch} {w : AW} {x : Int} (hx : 0 ≤ x ∧ x ≤ 127) : Call l m_Integer_bitCount false 68 68 [aI x] w (rt (some (aI (pop x))) w) := by
  have hk := pop_key x.toNat (by omega)
  rw [Int.toNat_of_nonneg hx.1] at hk
  obtain ⟨g1, g2, g3, g4, g5⟩ := hk
  refine Call.of (L := [some (aI x)]) rfl (Nat.le_of_ble_eq_true rfl) rfl (fun G ad => ?_)
  refine j_iload_n (pc' := 1) (z := x) dJ6_bitCount_0f7a4_0 rfl rfl ?_
  refine j_iload_n (pc' := 2) (z := x) dJ6_bitCount_0f7a4_1 rfl rfl ?_
  refine j_iconst (pc' := 3) dJ6_bitCount_0f7a4_2 rfl ?_
  refine j_iushr (pc' := 4) 1 dJ6_bitCount_0f7a4_3 rfl (by omega) (by decide) ?_
  refine j_ldcw (pc' := 7) (n := 1431655765) dJ6_bitCount_0f7a4_4 rfl k_Integer_265 (by decide) ?_
  refine j_iand (pc' := 8) (a := x / 2 ^ 1) (b := 1431655765) dJ6_bitCount_0f7a4_7 rfl (by omega) (by omega) ?_
  refine j_isub (pc' := 9) dJ6_bitCount_0f7a4_8 rfl ?_
  refine j_istore_n (pc' := 10) (L' := [some (aI (b1 x))]) dJ6_bitCount_0f7a4_9 rfl (by decide) rfl ?_
  refine j_iload_n (pc' := 11) (z := (b1 x)) dJ6_bitCount_0f7a4_10 rfl rfl ?_
  refine j_ldcw (pc' := 14) (n := 858993459) dJ6_bitCount_0f7a4_11 rfl k_Integer_266 (by decide) ?_
  refine j_iand (pc' := 15) (a := b1 x) (b := 858993459) dJ6_bitCount_0f7a4_14 rfl (by omega) (by omega) ?_
  refine j_iload_n (pc' := 16) (z := (b1 x)) dJ6_bitCount_0f7a4_15 rfl rfl ?_
  refine j_iconst (pc' := 17) dJ6_bitCount_0f7a4_16 rfl ?_
  refine j_iushr (pc' := 18) 2 dJ6_bitCount_0f7a4_17 rfl (by omega) (by decide) ?_
  refine j_ldcw (pc' := 21) (n := 858993459) dJ6_bitCount_0f7a4_18 rfl k_Integer_266 (by decide) ?_
  refine j_iand (pc' := 22) (a := (b1 x) / 2 ^ 2) (b := 858993459) dJ6_bitCount_0f7a4_21 rfl (by omega) (by omega) ?_
  refine j_iadd (pc' := 23) dJ6_bitCount_0f7a4_22 rfl ?_
  refine j_istore_n (pc' := 24) (L' := [some (aI (b2 (b1 x)))]) dJ6_bitCount_0f7a4_23 rfl (by decide) rfl ?_
  refine j_iload_n (pc' := 25) (z := (b2 (b1 x))) dJ6_bitCount_0f7a4_24 rfl rfl ?_
  refine j_iload_n (pc' := 26) (z := (b2 (b1 x))) dJ6_bitCount_0f7a4_25 rfl rfl ?_
  refine j_iconst (pc' := 27) dJ6_bitCount_0f7a4_26 rfl ?_
  refine j_iushr (pc' := 28) 4 dJ6_bitCount_0f7a4_27 rfl (by omega) (by decide) ?_
  refine j_iadd (pc' := 29) dJ6_bitCount_0f7a4_28 rfl ?_
  refine j_ldcw (pc' := 32) (n := 252645135) dJ6_bitCount_0f7a4_29 rfl k_Integer_267 (by decide) ?_
  refine j_iand (pc' := 33) (a := (b2 (b1 x)) + ((b2 (b1 x)) / 2 ^ 4)) (b := 252645135) dJ6_bitCount_0f7a4_32 rfl (by omega) (by omega) ?_
  refine j_istore_n (pc' := 34) (L' := [some (aI (b3 (b2 (b1 x))))]) dJ6_bitCount_0f7a4_33 rfl (by decide) rfl ?_
  refine j_iload_n (pc' := 35) (z := (b3 (b2 (b1 x)))) dJ6_bitCount_0f7a4_34 rfl rfl ?_
  refine j_iload_n (pc' := 36) (z := (b3 (b2 (b1 x)))) dJ6_bitCount_0f7a4_35 rfl rfl ?_
  refine j_bipush (pc' := 38) dJ6_bitCount_0f7a4_36 rfl (by decide) ?_
  refine j_iushr (pc' := 39) 8 dJ6_bitCount_0f7a4_38 rfl (by omega) (by decide) ?_
  refine j_iadd (pc' := 40) dJ6_bitCount_0f7a4_39 rfl ?_
  refine j_istore_n (pc' := 41) (L' := [some (aI (b4 (b3 (b2 (b1 x)))))]) dJ6_bitCount_0f7a4_40 rfl (by decide) rfl ?_
  refine j_iload_n (pc' := 42) (z := (b4 (b3 (b2 (b1 x))))) dJ6_bitCount_0f7a4_41 rfl rfl ?_
  refine j_iload_n (pc' := 43) (z := (b4 (b3 (b2 (b1 x))))) dJ6_bitCount_0f7a4_42 rfl rfl ?_
  refine j_bipush (pc' := 45) dJ6_bitCount_0f7a4_43 rfl (by decide) ?_
  refine j_iushr (pc' := 46) 16 dJ6_bitCount_0f7a4_45 rfl (by omega) (by decide) ?_
  refine j_iadd (pc' := 47) dJ6_bitCount_0f7a4_46 rfl ?_
  refine j_istore_n (pc' := 48) (L' := [some (aI (b5 (b4 (b3 (b2 (b1 x))))))]) dJ6_bitCount_0f7a4_47 rfl (by decide) rfl ?_
  refine j_iload_n (pc' := 49) (z := (b5 (b4 (b3 (b2 (b1 x)))))) dJ6_bitCount_0f7a4_48 rfl rfl ?_
  refine j_bipush (pc' := 51) dJ6_bitCount_0f7a4_49 rfl (by decide) ?_
  refine j_imask (pc' := 52) 6 dJ6_bitCount_0f7a4_51 rfl (by decide) rfl ?_
  exact j_iret dJ6_bitCount_0f7a4_52 rfl (rt_eq (by exact g5))
set_option maxRecDepth 100000 in
set_option maxHeartbeats 4000000 in
theorem c_Car_freeOnes {l : Launch} {w : AW} {c : Nat} {D : Int → Int → Int} {n mi : Int}  (hC : CarAt w c D n mi) (hB : CarOK D n mi) (hK : KindsAt w) (hc : 10 ≤ c ∧ c + 8 ≤ 68)  : Call l m_Car_freeOnes false 68 68 [aR c] w (rt (some (aI (freS D n))) w) := by
  have hC0 := hC
  have hB0 := hB
  have hK0 := hK
  obtain ⟨hO, a1, a2, a3, a4, a5, a6, a7⟩ := hC
  obtain ⟨hn, hD, hs0, hs1, hs2, hs3⟩ := hB
  obtain ⟨kk, t0, t1, t2, t3, t4, t5, t6, t7⟩ := hK
  refine Call.of (L := [some (aR c), none, none]) rfl (Nat.le_of_ble_eq_true rfl) rfl (fun G ad => ?_)
  refine j_iconst (pc' := 1) dX0_freeOnes_0 rfl ?_
  refine j_istore_n (pc' := 2) (L' := [some (aR c), some (aI 0), none]) dX0_freeOnes_1 rfl (by decide) rfl ?_
  refine j_iconst (pc' := 3) dX0_freeOnes_2 rfl ?_
  refine j_istore_n (pc' := 4) (L' := [some (aR c), some (aI 0), some (aI 0)]) dX0_freeOnes_3 rfl (by decide) rfl ?_
  have lp4 : ∀ (k9 : Nat) (v : Int) (i : Int), (0 ≤ i ∧ i ≤ n) → (v = bset (freP D) i) → (0 ≤ v ∧ v ≤ 127) → ((n - i).toNat) = k9 → J l m_Car_freeOnes ad G [] false (jZ ad G false 68 m_Car_freeOnes.2.2.2.2.cells m_Car_freeOnes.2.2.2.2.slots (rt (some (aI (freS D n))) w)) 68 0 0 4 [some (aR c), some (aI v), some (aI i)] [] w := by
    intro k9
    induction k9 using Nat.strongRecOn with
    | _ k9 ih4 =>
      intro v i hi hv hvb hk4
      refine j_iload_n (pc' := 5) (z := i) dX0_freeOnes_4 rfl rfl ?_
      refine j_aload_n (pc' := 6) (z := c) dX0_freeOnes_5 rfl rfl ?_
      refine j_get (pc' := 9) (v := aI n) dX0_freeOnes_6 rfl f_Car_37 (by omega) hO rfl ?_
      refine j_icmp_ge (tgt := 37) (pc' := 12) dX0_freeOnes_9 (by decide) rfl (by omega) (by omega) (fun h9 => ?_) (fun h9 => ?_)
      · refine j_iload_n (pc' := 38) (z := v) dX0_freeOnes_37 rfl rfl ?_
        exact j_iret dX0_freeOnes_38 rfl (rt_eq (by rw [hv, show i = n by omega]; rfl))
      · have hpw := pow7 (n := i) (by omega)
        have hDi := hD i (by omega) (by omega)
        refine j_iload_n (pc' := 13) (z := v) dX0_freeOnes_12 rfl rfl ?_
        refine j_aload_n (pc' := 14) (z := c) dX0_freeOnes_13 rfl rfl ?_
        refine j_get (pc' := 17) (v := aR (c + 5)) dX0_freeOnes_14 rfl f_Car_28 (by omega) hO rfl ?_
        refine j_iload_n (pc' := 18) (z := i) dX0_freeOnes_17 rfl rfl ?_
        refine j_iald (pc' := 19) dX0_freeOnes_18 rfl (by omega) a5 (by omega) (by decide) ?_
        refine j_if_ne (tgt := 28) (pc' := 22) dX0_freeOnes_19 (by decide) rfl (by omega) (fun h19 => ?_) (fun h19 => ?_)
        · refine j_iconst (pc' := 29) dX0_freeOnes_28 rfl ?_
          refine j_ior (pc' := 30) (a := v) (b := 0) dX0_freeOnes_29 rfl (by omega) (by omega) ?_
          refine j_istore_n (pc' := 31) (L' := [some (aR c), some (aI (orI v 0)), some (aI i)]) dX0_freeOnes_30 rfl (by decide) rfl ?_
          refine j_iinc (pc' := 34) (z := i) (L' := [some (aR c), some (aI (orI v 0)), some (aI (i + 1))]) dX0_freeOnes_31 rfl (by decide) rfl rfl rfl ?_
          refine j_goto (pc' := 4) dX0_freeOnes_34 (by decide) ?_
          exact ih4 _ (by omega) (orI v 0) (i + 1) (by omega) (by rw [hv]; exact bset_or (by omega) (by unfold freP; simp [*])) (by rw [hv, bset_or (P := freP D) (by omega) (by unfold freP; simp [*])]; exact bset_127 (by omega)) rfl
        · refine j_iconst (pc' := 23) dX0_freeOnes_22 rfl ?_
          refine j_iload_n (pc' := 24) (z := i) dX0_freeOnes_23 rfl rfl ?_
          refine j_ishl1 (pc' := 25) dX0_freeOnes_24 rfl (by omega) ?_
          refine j_goto (pc' := 29) dX0_freeOnes_25 (by decide) ?_
          refine j_ior (pc' := 30) (a := v) (b := 2 ^ (Int.toNat i)) dX0_freeOnes_29 rfl (by omega) (by omega) ?_
          refine j_istore_n (pc' := 31) (L' := [some (aR c), some (aI (orI v (2 ^ (Int.toNat i)))), some (aI i)]) dX0_freeOnes_30 rfl (by decide) rfl ?_
          refine j_iinc (pc' := 34) (z := i) (L' := [some (aR c), some (aI (orI v (2 ^ (Int.toNat i)))), some (aI (i + 1))]) dX0_freeOnes_31 rfl (by decide) rfl rfl rfl ?_
          refine j_goto (pc' := 4) dX0_freeOnes_34 (by decide) ?_
          exact ih4 _ (by omega) (orI v (2 ^ (Int.toNat i))) (i + 1) (by omega) (by rw [hv]; exact bset_or (by omega) (by unfold freP; simp [*])) (by rw [hv, bset_or (P := freP D) (by omega) (by unfold freP; simp [*])]; exact bset_127 (by omega)) rfl
  exact lp4 _ 0 0 (by omega) (by rfl) (by omega) rfl
set_option maxRecDepth 100000 in
set_option maxHeartbeats 4000000 in
theorem jk_Car_rattlingAt_36 {l : Launch} {ad : Nat → Nat} {G : JG} {X : List (Nat × Nat × (Int → Int))} {Z : JZ} {L : List (Option AV)} {rest : List AV} {w : AW} {k f pace cold load : Int} (hK : KindsAt w) (hk : 0 ≤ k ∧ k ≤ 7) (hf : 0 ≤ f ∧ f ≤ 9) (hp9 : 0 ≤ pace ∧ pace ≤ 1000) (hcd : 0 ≤ cold ∧ cold ≤ 9) (hld : 0 ≤ load ∧ load ≤ 5) (hcat : (rest.map jcat).sum ≤ 8) (kont : J l m_Car_rattlingAt ad G X false Z 68 0 0 39 L (aI (loud k f pace cold load) :: rest) w) : J l m_Car_rattlingAt ad G X false Z 68 0 0 36 L (aI load :: aI cold :: aI pace :: aI f :: aR (2 + k.toNat) :: rest) w := by
  obtain ⟨kk, t0, t1, t2, t3, t4, t5, t6, t7⟩ := hK
  rcases (show k = 0 ∨ k = 1 ∨ k = 2 ∨ k = 3 ∨ k = 4 ∨ k = 5 ∨ k = 6 ∨ k = 7 by omega) with rfl | rfl | rfl | rfl | rfl | rfl | rfl | rfl
  · refine j_callO (pc' := 39) (q := 2) (as := [aI f, aI pace, aI cold, aI load]) (rest := rest) (Mx := m_Part_loudness) dX0_rattlingAt_36 rfl s_Car_98_Part s_Car_98_Part (c_Part_loudness hp9) (by decide) t0 rfl rfl rfl (by have h9 : decide ((rest.map jcat).sum ≤ 8) = true := decide_eq_true hcat; simp only [rmB, h9]; rfl) (jdet rfl ?_)
    exact j_top (by simp [loud]) kont
  · refine j_callO (pc' := 39) (q := 3) (as := [aI f, aI pace, aI cold, aI load]) (rest := rest) (Mx := m_Part_loudness) dX0_rattlingAt_36 rfl s_Car_98_Loose s_Car_98_Part (c_Loose_loudness hp9) (by decide) t1 rfl rfl rfl (by have h9 : decide ((rest.map jcat).sum ≤ 8) = true := decide_eq_true hcat; simp only [rmB, h9]; rfl) (jdet rfl ?_)
    exact j_top (by simp [loud]) kont
  · refine j_callO (pc' := 39) (q := 4) (as := [aI f, aI pace, aI cold, aI load]) (rest := rest) (Mx := m_Part_loudness) dX0_rattlingAt_36 rfl s_Car_98_Tinny s_Car_98_Part (c_Tinny_loudness (by decide) t2 rfl hp9) (by decide) t2 rfl rfl rfl (by have h9 : decide ((rest.map jcat).sum ≤ 8) = true := decide_eq_true hcat; simp only [rmB, h9]; rfl) (jdet rfl ?_)
    exact j_top (by simp [loud]) kont
  · refine j_callO (pc' := 39) (q := 5) (as := [aI f, aI pace, aI cold, aI load]) (rest := rest) (Mx := m_Part_loudness) dX0_rattlingAt_36 rfl s_Car_98_Frosty s_Car_98_Part (c_Frosty_loudness (by decide) t3 rfl hp9 hcd) (by decide) t3 rfl rfl rfl (by have h9 : decide ((rest.map jcat).sum ≤ 8) = true := decide_eq_true hcat; simp only [rmB, h9]; rfl) (jdet rfl ?_)
    exact j_top (by simp [loud]) kont
  · refine j_callO (pc' := 39) (q := 6) (as := [aI f, aI pace, aI cold, aI load]) (rest := rest) (Mx := m_Part_loudness) dX0_rattlingAt_36 rfl s_Car_98_Heavy s_Car_98_Part (c_Heavy_loudness (by decide) t4 rfl hp9 hf hld) (by decide) t4 rfl rfl rfl (by have h9 : decide ((rest.map jcat).sum ≤ 8) = true := decide_eq_true hcat; simp only [rmB, h9]; rfl) (jdet rfl ?_)
    exact j_top (by simp [loud]) kont
  · refine j_callO (pc' := 39) (q := 7) (as := [aI f, aI pace, aI cold, aI load]) (rest := rest) (Mx := m_Part_loudness) dX0_rattlingAt_36 rfl s_Car_98_Doubled s_Car_98_Part (c_Doubled_loudness (by decide) t5 rfl hp9 hf) (by decide) t5 rfl rfl rfl (by have h9 : decide ((rest.map jcat).sum ≤ 8) = true := decide_eq_true hcat; simp only [rmB, h9]; rfl) (jdet rfl ?_)
    exact j_top (by simp [loud]) kont
  · refine j_callO (pc' := 39) (q := 8) (as := [aI f, aI pace, aI cold, aI load]) (rest := rest) (Mx := m_Part_loudness) dX0_rattlingAt_36 rfl s_Car_98_Dead s_Car_98_Part c_Dead_loudness (by decide) t6 rfl rfl rfl (by have h9 : decide ((rest.map jcat).sum ≤ 8) = true := decide_eq_true hcat; simp only [rmB, h9]; rfl) (jdet rfl ?_)
    exact j_top (by simp [loud]) kont
  · refine j_callO (pc' := 39) (q := 9) (as := [aI f, aI pace, aI cold, aI load]) (rest := rest) (Mx := m_Part_loudness) dX0_rattlingAt_36 rfl s_Car_98_Deep s_Car_98_Part (c_Deep_loudness (by decide) t7 rfl hp9 hf hld) (by decide) t7 rfl rfl rfl (by have h9 : decide ((rest.map jcat).sum ≤ 8) = true := decide_eq_true hcat; simp only [rmB, h9]; rfl) (jdet rfl ?_)
    exact j_top (by simp [loud]) kont
set_option maxRecDepth 100000 in
set_option maxHeartbeats 4000000 in
theorem c_Car_rattlingAt {l : Launch} {w : AW} {c : Nat} {D : Int → Int → Int} {n mi : Int} {pace : Int} (hC : CarAt w c D n mi) (hB : CarOK D n mi) (hK : KindsAt w) (hc : 10 ≤ c ∧ c + 8 ≤ 68) (hpa : 0 ≤ pace ∧ pace ≤ 1000) : Call l m_Car_rattlingAt false 68 68 [aR c, aI pace] w (rt (some (aI (ratS D n pace))) w) := by
  have hC0 := hC
  have hB0 := hB
  have hK0 := hK
  obtain ⟨hO, a1, a2, a3, a4, a5, a6, a7⟩ := hC
  obtain ⟨hn, hD, hs0, hs1, hs2, hs3⟩ := hB
  obtain ⟨kk, t0, t1, t2, t3, t4, t5, t6, t7⟩ := hK
  refine Call.of (L := [some (aR c), some (aI pace), none, none, none]) rfl (Nat.le_of_ble_eq_true rfl) rfl (fun G ad => ?_)
  refine j_iconst (pc' := 1) dX0_rattlingAt_0 rfl ?_
  refine j_istore_n (pc' := 2) (L' := [some (aR c), some (aI pace), some (aI 0), none, none]) dX0_rattlingAt_1 rfl (by decide) rfl ?_
  refine j_iconst (pc' := 3) dX0_rattlingAt_2 rfl ?_
  refine j_istore_n (pc' := 4) (L' := [some (aR c), some (aI pace), some (aI 0), some (aI 0), none]) dX0_rattlingAt_3 rfl (by decide) rfl ?_
  have lp4 : ∀ (k9 : Nat) (v : Int) (i : Int), (0 ≤ i ∧ i ≤ n) → (v = bset (ratP D pace) i) → (0 ≤ v ∧ v ≤ 127) → ((n - i).toNat) = k9 → J l m_Car_rattlingAt ad G [] false (jZ ad G false 68 m_Car_rattlingAt.2.2.2.2.cells m_Car_rattlingAt.2.2.2.2.slots (rt (some (aI (ratS D n pace))) w)) 68 0 0 4 [some (aR c), some (aI pace), some (aI v), some (aI i), none] [] w := by
    intro k9
    induction k9 using Nat.strongRecOn with
    | _ k9 ih4 =>
      intro v i hi hv hvb hk4
      refine j_iload_n (pc' := 5) (z := i) dX0_rattlingAt_4 rfl rfl ?_
      refine j_aload_n (pc' := 6) (z := c) dX0_rattlingAt_5 rfl rfl ?_
      refine j_get (pc' := 9) (v := aI n) dX0_rattlingAt_6 rfl f_Car_37 (by omega) hO rfl ?_
      refine j_icmp_ge (tgt := 62) (pc' := 12) dX0_rattlingAt_9 (by decide) rfl (by omega) (by omega) (fun h9 => ?_) (fun h9 => ?_)
      · refine j_iload_n (pc' := 63) (z := v) dX0_rattlingAt_62 rfl rfl ?_
        exact j_iret dX0_rattlingAt_63 rfl (rt_eq (by rw [hv, show i = n by omega]; rfl))
      · have hpw := pow7 (n := i) (by omega)
        have hDi := hD i (by omega) (by omega)
        refine j_aload_n (pc' := 13) (z := c) dX0_rattlingAt_12 rfl rfl ?_
        refine j_iload_n (pc' := 14) (z := i) dX0_rattlingAt_13 rfl rfl ?_
        refine j_callV (pc' := 17) (as := [aI i]) (rest := []) dX0_rattlingAt_14 rfl s_Car_61 (c_Car_kindOf hC0 hB0 hK0 hc (p := i) (by omega)) (by omega) hO rfl rfl rfl rfl (jdet (st' := [aR (2 + (D 0 i).toNat)]) rfl ?_)
        refine j_aload_n (pc' := 18) (z := c) dX0_rattlingAt_17 rfl rfl ?_
        refine j_get (pc' := 21) (v := aR (c + 2)) dX0_rattlingAt_18 rfl f_Car_19 (by omega) hO rfl ?_
        refine j_iload_n (pc' := 22) (z := i) dX0_rattlingAt_21 rfl rfl ?_
        refine j_iald (pc' := 23) dX0_rattlingAt_22 rfl (by omega) a2 (by omega) (by decide) ?_
        refine j_iload_n (pc' := 24) (z := pace) dX0_rattlingAt_23 rfl rfl ?_
        refine j_aload_n (pc' := 25) (z := c) dX0_rattlingAt_24 rfl rfl ?_
        refine j_get (pc' := 28) (v := aR (c + 7)) dX0_rattlingAt_25 rfl f_Car_34 (by omega) hO rfl ?_
        refine j_iconst (pc' := 29) dX0_rattlingAt_28 rfl ?_
        refine j_iald (pc' := 30) dX0_rattlingAt_29 rfl (by omega) a7 (by omega) (by decide) ?_
        refine j_aload_n (pc' := 31) (z := c) dX0_rattlingAt_30 rfl rfl ?_
        refine j_get (pc' := 34) (v := aR (c + 7)) dX0_rattlingAt_31 rfl f_Car_34 (by omega) hO rfl ?_
        refine j_iconst (pc' := 35) dX0_rattlingAt_34 rfl ?_
        refine j_iald (pc' := 36) dX0_rattlingAt_35 rfl (by omega) a7 (by omega) (by decide) ?_
        refine jk_Car_rattlingAt_36 (k := D 0 i) (f := D 1 i) (pace := pace) (cold := D 6 1) (load := D 6 2) hK0 (by omega) (by omega) (by omega) (by omega) (by omega) (Nat.le_of_ble_eq_true rfl) ?_
        refine j_istore (pc' := 41) (L' := [some (aR c), some (aI pace), some (aI v), some (aI i), some (aI (loud (D 0 i) (D 1 i) pace (D 6 1) (D 6 2)))]) dX0_rattlingAt_39 rfl (by decide) rfl ?_
        refine j_iload_n (pc' := 42) (z := v) dX0_rattlingAt_41 rfl rfl ?_
        refine j_iload (pc' := 44) (z := (loud (D 0 i) (D 1 i) pace (D 6 1) (D 6 2))) dX0_rattlingAt_42 rfl rfl ?_
        have hlb := loud_bd (k := D 0 i) (pace := pace) (cold := D 6 1) (load := D 6 2) (by omega : 0 ≤ D 1 i ∧ D 1 i ≤ 9) (by omega)
        refine j_if_le (tgt := 53) (pc' := 47) dX0_rattlingAt_44 (by decide) rfl (by omega) (fun h44 => ?_) (fun h44 => ?_)
        · refine j_iconst (pc' := 54) dX0_rattlingAt_53 rfl ?_
          refine j_ior (pc' := 55) (a := v) (b := 0) dX0_rattlingAt_54 rfl (by omega) (by omega) ?_
          refine j_istore_n (pc' := 56) (L' := [some (aR c), some (aI pace), some (aI (orI v 0)), some (aI i), some (aI (loud (D 0 i) (D 1 i) pace (D 6 1) (D 6 2)))]) dX0_rattlingAt_55 rfl (by decide) rfl ?_
          refine j_iinc (pc' := 59) (z := i) (L' := [some (aR c), some (aI pace), some (aI (orI v 0)), some (aI (i + 1)), some (aI (loud (D 0 i) (D 1 i) pace (D 6 1) (D 6 2)))]) dX0_rattlingAt_56 rfl (by decide) rfl rfl rfl ?_
          refine j_goto (pc' := 4) dX0_rattlingAt_59 (by decide) ?_
          refine j_forget 4 (L' := [some (aR c), some (aI pace), some (aI (orI v 0)), some (aI (i + 1)), none]) rfl ?_
          exact ih4 _ (by omega) (orI v 0) (i + 1) (by omega) (by rw [hv]; exact bset_or (by omega) (by unfold ratP lds; first | rw [if_pos (decide_eq_true h44)] | rw [if_neg (by rw [decide_eq_true_iff]; omega)])) (by rw [hv, bset_or (P := ratP D pace) (by omega) (by unfold ratP lds; first | rw [if_pos (decide_eq_true h44)] | rw [if_neg (by rw [decide_eq_true_iff]; omega)])]; exact bset_127 (by omega)) rfl
        · refine j_iconst (pc' := 48) dX0_rattlingAt_47 rfl ?_
          refine j_iload_n (pc' := 49) (z := i) dX0_rattlingAt_48 rfl rfl ?_
          refine j_ishl1 (pc' := 50) dX0_rattlingAt_49 rfl (by omega) ?_
          refine j_goto (pc' := 54) dX0_rattlingAt_50 (by decide) ?_
          refine j_ior (pc' := 55) (a := v) (b := 2 ^ (Int.toNat i)) dX0_rattlingAt_54 rfl (by omega) (by omega) ?_
          refine j_istore_n (pc' := 56) (L' := [some (aR c), some (aI pace), some (aI (orI v (2 ^ (Int.toNat i)))), some (aI i), some (aI (loud (D 0 i) (D 1 i) pace (D 6 1) (D 6 2)))]) dX0_rattlingAt_55 rfl (by decide) rfl ?_
          refine j_iinc (pc' := 59) (z := i) (L' := [some (aR c), some (aI pace), some (aI (orI v (2 ^ (Int.toNat i)))), some (aI (i + 1)), some (aI (loud (D 0 i) (D 1 i) pace (D 6 1) (D 6 2)))]) dX0_rattlingAt_56 rfl (by decide) rfl rfl rfl ?_
          refine j_goto (pc' := 4) dX0_rattlingAt_59 (by decide) ?_
          refine j_forget 4 (L' := [some (aR c), some (aI pace), some (aI (orI v (2 ^ (Int.toNat i)))), some (aI (i + 1)), none]) rfl ?_
          exact ih4 _ (by omega) (orI v (2 ^ (Int.toNat i))) (i + 1) (by omega) (by rw [hv]; exact bset_or (by omega) (by unfold ratP lds; first | rw [if_pos (decide_eq_true h44)] | rw [if_neg (by rw [decide_eq_true_iff]; omega)])) (by rw [hv, bset_or (P := ratP D pace) (by omega) (by unfold ratP lds; first | rw [if_pos (decide_eq_true h44)] | rw [if_neg (by rw [decide_eq_true_iff]; omega)])]; exact bset_127 (by omega)) rfl
  exact lp4 _ 0 0 (by omega) (by rfl) (by omega) rfl
set_option maxRecDepth 100000 in
set_option maxHeartbeats 4000000 in
theorem c_Car_doesJust {l : Launch} {w : AW} {c : Nat} {D : Int → Int → Int} {n mi : Int} {q : Nat} {ct k f so sz : Int} {E : Int → Int} {set : Int} (hC : CarAt w c D n mi) (hB : CarOK D n mi) (hK : KindsAt w) (hc : 10 ≤ c ∧ c + 8 ≤ 68) (hS : ShelfAt w q ct k f so sz E) (hH : ShelfOK ct k f so sz E) (hq : c + 8 ≤ q ∧ q + 2 ≤ 68) (hset : 0 ≤ set ∧ set ≤ 127) (hpr : pairsB E sz = true) : Call l m_Car_doesJust false 68 68 [aR c, aR q, aI set] w (rt (some (aB (toldB D n E sz set = true))) w) := by
  have hC0 := hC
  have hB0 := hB
  have hK0 := hK
  obtain ⟨hO, a1, a2, a3, a4, a5, a6, a7⟩ := hC
  obtain ⟨hn, hD, hs0, hs1, hs2, hs3⟩ := hB
  obtain ⟨kk, t0, t1, t2, t3, t4, t5, t6, t7⟩ := hK
  have hS0 := hS
  have hH0 := hH
  obtain ⟨hO2, hE⟩ := hS
  obtain ⟨hct, hkk, hff, hso, hsz, hEb⟩ := hH
  have hev := pair_ev hpr
  refine Call.of (L := [some (aR c), some (aR q), some (aI set), none, none]) rfl (Nat.le_of_ble_eq_true rfl) rfl (fun G ad => ?_)
  refine j_iconst (pc' := 1) dX0_doesJust_0 rfl ?_
  refine j_istore_n (pc' := 2) (L' := [some (aR c), some (aR q), some (aI set), some (aI 0), none]) dX0_doesJust_1 rfl (by decide) rfl ?_
  have lp2 : ∀ (k9 : Nat) (i : Int), (0 ≤ i ∧ i ≤ sz ∧ i % 2 = 0) → (allI (toldP D n E set) (i / 2) = true) → ((sz - i).toNat) = k9 → J l m_Car_doesJust ad G [] false (jZ ad G false 68 m_Car_doesJust.2.2.2.2.cells m_Car_doesJust.2.2.2.2.slots (rt (some (aB (toldB D n E sz set = true))) w)) 68 0 0 2 [some (aR c), some (aR q), some (aI set), some (aI i), none] [] w := by
    intro k9
    induction k9 using Nat.strongRecOn with
    | _ k9 ih2 =>
      intro i hi ha hk2
      refine j_iload_n (pc' := 3) (z := i) dX0_doesJust_2 rfl rfl ?_
      refine j_iconst (pc' := 4) dX0_doesJust_3 rfl ?_
      refine j_iadd (pc' := 5) dX0_doesJust_4 rfl ?_
      refine j_aload_n (pc' := 6) (z := q) dX0_doesJust_5 rfl rfl ?_
      refine j_get (pc' := 9) (v := aI sz) dX0_doesJust_6 rfl f_Car_87 (by omega) hO2 rfl ?_
      refine j_icmp_ge (tgt := 64) (pc' := 12) dX0_doesJust_9 (by decide) rfl (by omega) (by omega) (fun h9 => ?_) (fun h9 => ?_)
      · refine j_iconst (pc' := 65) dX0_doesJust_64 rfl ?_
        exact j_zret1 dX0_doesJust_65 rfl (rt_b1 (by exact told_ok (i := i) (by omega) hev (by omega) ha))
      · have hpi := pair_at hpr (i := i) (by omega) (by omega)
        have hrat := rat_and (D := D) (n := n) (set := set) (pace := E i) (by omega) (by omega)
        have hrb := bset_127 (P := ratP D (E i)) (n := n) (by omega)
        have hrb : 0 ≤ ratS D n (E i) ∧ ratS D n (E i) ≤ 127 := hrb
        have hab := andI_bd (a := set) (b := ratS D n (E i)) (by omega) (by omega)
        have ct34 : ∀ (x : Int), (x = if ratB D n set (E i) = true then 1 else 0) → J l m_Car_doesJust ad G [] false (jZ ad G false 68 m_Car_doesJust.2.2.2.2.cells m_Car_doesJust.2.2.2.2.slots (rt (some (aB (toldB D n E sz set = true))) w)) 68 0 0 34 [some (aR c), some (aR q), some (aI set), some (aI i), some (aI x)] [] w := by
          intro x hx
          have ct58 : ((ratB D n set (E i) = true) ↔ E (i + 1) = 1) → J l m_Car_doesJust ad G [] false (jZ ad G false 68 m_Car_doesJust.2.2.2.2.cells m_Car_doesJust.2.2.2.2.slots (rt (some (aB (toldB D n E sz set = true))) w)) 68 0 0 58 [some (aR c), some (aR q), some (aI set), some (aI i), some (aI x)] [] w := by
            intro  hiff
            refine j_iinc (pc' := 61) (z := i) (L' := [some (aR c), some (aR q), some (aI set), some (aI (i + 2)), some (aI x)]) dX0_doesJust_58 rfl (by decide) rfl rfl rfl ?_
            refine j_goto (pc' := 2) dX0_doesJust_61 (by decide) ?_
            refine j_forget 4 (L' := [some (aR c), some (aR q), some (aI set), some (aI (i + 2)), none]) rfl ?_
            exact ih2 _ (by omega) (i + 2) (by omega) (by exact told_s (by omega) (by omega) ha hiff) rfl
          refine j_iload (pc' := 36) (z := x) dX0_doesJust_34 rfl rfl ?_
          have hxb : 0 ≤ x ∧ x ≤ 1 := by rw [hx]; split <;> omega
          refine j_aload_n (pc' := 37) (z := q) dX0_doesJust_36 rfl rfl ?_
          refine j_get (pc' := 40) (v := aR (q + 1)) dX0_doesJust_37 rfl f_Car_95 (by omega) hO2 rfl ?_
          refine j_iload_n (pc' := 41) (z := i) dX0_doesJust_40 rfl rfl ?_
          refine j_iconst (pc' := 42) dX0_doesJust_41 rfl ?_
          refine j_iadd (pc' := 43) dX0_doesJust_42 rfl ?_
          refine j_iald (pc' := 44) dX0_doesJust_43 rfl (by omega) hE (by omega) (by decide) ?_
          refine j_iconst (pc' := 45) dX0_doesJust_44 rfl ?_
          refine j_icmp_ne (tgt := 52) (pc' := 48) dX0_doesJust_45 (by decide) rfl (by omega) (by omega) (fun h45 => ?_) (fun h45 => ?_)
          · refine j_iconst (pc' := 53) dX0_doesJust_52 rfl ?_
            refine j_icmp_eq (tgt := 58) (pc' := 56) dX0_doesJust_53 (by decide) rfl (by omega) (by omega) (fun h53 => ?_) (fun h53 => ?_)
            · exact ct58  (by by_cases hr9 : ratB D n set (E i) = true; (rw [if_pos hr9] at hx; exact ⟨fun _ => by omega, fun _ => hr9⟩); (rw [if_neg hr9] at hx; exact ⟨fun q9 => absurd q9 hr9, fun q9 => by omega⟩))
            · refine j_iconst (pc' := 57) dX0_doesJust_56 rfl ?_
              exact j_zret0 dX0_doesJust_57 rfl (rt_b0 (by refine told_bad (i := i) (by omega) (by omega) ?_; by_cases hr9 : ratB D n set (E i) = true; (rw [if_pos hr9] at hx; intro q9; have := q9.mp hr9; omega); (rw [if_neg hr9] at hx; intro q9; exact hr9 (q9.mpr (by omega)))))
          · refine j_iconst (pc' := 49) dX0_doesJust_48 rfl ?_
            refine j_goto (pc' := 53) dX0_doesJust_49 (by decide) ?_
            refine j_icmp_eq (tgt := 58) (pc' := 56) dX0_doesJust_53 (by decide) rfl (by omega) (by omega) (fun h53 => ?_) (fun h53 => ?_)
            · exact ct58  (by by_cases hr9 : ratB D n set (E i) = true; (rw [if_pos hr9] at hx; exact ⟨fun _ => by omega, fun _ => hr9⟩); (rw [if_neg hr9] at hx; exact ⟨fun q9 => absurd q9 hr9, fun q9 => by omega⟩))
            · refine j_iconst (pc' := 57) dX0_doesJust_56 rfl ?_
              exact j_zret0 dX0_doesJust_57 rfl (rt_b0 (by refine told_bad (i := i) (by omega) (by omega) ?_; by_cases hr9 : ratB D n set (E i) = true; (rw [if_pos hr9] at hx; intro q9; have := q9.mp hr9; omega); (rw [if_neg hr9] at hx; intro q9; exact hr9 (q9.mpr (by omega)))))
        refine j_iload_n (pc' := 13) (z := set) dX0_doesJust_12 rfl rfl ?_
        refine j_aload_n (pc' := 14) (z := c) dX0_doesJust_13 rfl rfl ?_
        refine j_aload_n (pc' := 15) (z := q) dX0_doesJust_14 rfl rfl ?_
        refine j_get (pc' := 18) (v := aR (q + 1)) dX0_doesJust_15 rfl f_Car_95 (by omega) hO2 rfl ?_
        refine j_iload_n (pc' := 19) (z := i) dX0_doesJust_18 rfl rfl ?_
        refine j_iald (pc' := 20) dX0_doesJust_19 rfl (by omega) hE (by omega) (by decide) ?_
        refine j_callV (pc' := 23) (as := [aI (E i)]) (rest := [aI set]) dX0_doesJust_20 rfl s_Car_126 (c_Car_rattlingAt hC0 hB0 hK0 hc (by omega)) (by omega) hO rfl rfl rfl rfl (jdet (st' := [aI (ratS D n (E i)), aI set]) rfl ?_)
        refine j_iand (pc' := 24) (a := set) (b := ratS D n (E i)) dX0_doesJust_23 rfl (by omega) (by omega) ?_
        refine j_if_eq (tgt := 31) (pc' := 27) dX0_doesJust_24 (by decide) rfl (by omega) (fun h24 => ?_) (fun h24 => ?_)
        · refine j_iconst (pc' := 32) dX0_doesJust_31 rfl ?_
          refine j_istore (pc' := 34) (L' := [some (aR c), some (aR q), some (aI set), some (aI i), some (aI 0)]) dX0_doesJust_32 rfl (by decide) rfl ?_
          exact ct34 0 (by first | rw [if_pos (hrat.mp h24)] | rw [if_neg (fun q9 => absurd (hrat.mpr q9) (by omega))])
        · refine j_iconst (pc' := 28) dX0_doesJust_27 rfl ?_
          refine j_goto (pc' := 32) dX0_doesJust_28 (by decide) ?_
          refine j_istore (pc' := 34) (L' := [some (aR c), some (aR q), some (aI set), some (aI i), some (aI 1)]) dX0_doesJust_32 rfl (by decide) rfl ?_
          exact ct34 1 (by first | rw [if_pos (hrat.mp h24)] | rw [if_neg (fun q9 => absurd (hrat.mpr q9) (by omega))])
  exact lp2 _ 0 (by omega) (by rfl) rfl
set_option maxRecDepth 100000 in
set_option maxHeartbeats 4000000 in
theorem c_Car_fewestToHold {l : Launch} {w : AW} {c : Nat} {D : Int → Int → Int} {n mi : Int}  (hC : CarAt w c D n mi) (hB : CarOK D n mi) (hK : KindsAt w) (hc : 10 ≤ c ∧ c + 8 ≤ 68)  : Call l m_Car_fewestToHold false 68 68 [aR c] w (rt (some (aI (fth D n (2 ^ n.toNat)))) w) := by
  have hC0 := hC
  have hB0 := hB
  have hK0 := hK
  obtain ⟨hO, a1, a2, a3, a4, a5, a6, a7⟩ := hC
  obtain ⟨hn, hD, hs0, hs1, hs2, hs3⟩ := hB
  obtain ⟨kk, t0, t1, t2, t3, t4, t5, t6, t7⟩ := hK
  have hpw := pow7 (n := n) (by omega)
  have hfb := bset_127 (P := freP D) (n := n) (by omega)
  have hfb : 0 ≤ freS D n ∧ freS D n ≤ 127 := hfb
  refine Call.of (L := [some (aR c), none, none, none]) rfl (Nat.le_of_ble_eq_true rfl) rfl (fun G ad => ?_)
  refine j_aload_n (pc' := 1) (z := c) dX0_fewestToHold_0 rfl rfl ?_
  refine j_callV (pc' := 4) (as := []) (rest := []) dX0_fewestToHold_1 rfl s_Car_115 (c_Car_freeOnes hC0 hB0 hK0 hc) (by omega) hO rfl rfl rfl rfl (jdet (st' := [aI (freS D n)]) rfl ?_)
  refine j_istore_n (pc' := 5) (L' := [some (aR c), some (aI (freS D n)), none, none]) dX0_fewestToHold_4 rfl (by decide) rfl ?_
  refine j_iload_n (pc' := 6) (z := (freS D n)) dX0_fewestToHold_5 rfl rfl ?_
  refine j_istore_n (pc' := 7) (L' := [some (aR c), some (aI (freS D n)), some (aI (freS D n)), none]) dX0_fewestToHold_6 rfl (by decide) rfl ?_
  refine j_iconst (pc' := 8) dX0_fewestToHold_7 rfl ?_
  refine j_istore_n (pc' := 9) (L' := [some (aR c), some (aI (freS D n)), some (aI (freS D n)), some (aI 0)]) dX0_fewestToHold_8 rfl (by decide) rfl ?_
  have lp9 : ∀ (k9 : Nat) (b : Int) (s : Int), (0 ≤ s ∧ s ≤ 2 ^ n.toNat) → (b = fth D n s) → (0 ≤ b ∧ b ≤ 127) → ((2 ^ n.toNat - s).toNat) = k9 → J l m_Car_fewestToHold ad G [] false (jZ ad G false 68 m_Car_fewestToHold.2.2.2.2.cells m_Car_fewestToHold.2.2.2.2.slots (rt (some (aI (fth D n (2 ^ n.toNat)))) w)) 68 0 0 9 [some (aR c), some (aI (freS D n)), some (aI b), some (aI s)] [] w := by
    intro k9
    induction k9 using Nat.strongRecOn with
    | _ k9 ih9 =>
      intro b s hi hv hvb hk9
      refine j_iload_n (pc' := 10) (z := s) dX0_fewestToHold_9 rfl rfl ?_
      refine j_iconst (pc' := 11) dX0_fewestToHold_10 rfl ?_
      refine j_aload_n (pc' := 12) (z := c) dX0_fewestToHold_11 rfl rfl ?_
      refine j_get (pc' := 15) (v := aI n) dX0_fewestToHold_12 rfl f_Car_37 (by omega) hO rfl ?_
      refine j_ishl1 (pc' := 16) dX0_fewestToHold_15 rfl (by omega) ?_
      refine j_icmp_ge (tgt := 67) (pc' := 19) dX0_fewestToHold_16 (by decide) rfl (by omega) (by omega) (fun h16 => ?_) (fun h16 => ?_)
      · refine j_iload_n (pc' := 68) (z := b) dX0_fewestToHold_67 rfl rfl ?_
        exact j_iret dX0_fewestToHold_68 rfl (rt_eq (by rw [hv, show s = 2 ^ n.toNat by omega]))
      · refine j_iload_n (pc' := 20) (z := s) dX0_fewestToHold_19 rfl rfl ?_
        refine j_iload_n (pc' := 21) (z := (freS D n)) dX0_fewestToHold_20 rfl rfl ?_
        refine j_iconst (pc' := 22) dX0_fewestToHold_21 rfl ?_
        refine j_inot (pc' := 23) dX0_fewestToHold_22 rfl ?_
        refine j_iandn (pc' := 24) (a := s) (b := (freS D n)) dX0_fewestToHold_23 rfl (by omega) (by omega) ?_
        have han := andn_bd (a := s) (b := freS D n) (by omega)
        refine j_if_ne (tgt := 61) (pc' := 27) dX0_fewestToHold_24 (by decide) rfl (by omega) (fun h24 => ?_) (fun h24 => ?_)
        · refine j_iinc (pc' := 64) (z := s) (L' := [some (aR c), some (aI (freS D n)), some (aI b), some (aI (s + 1))]) dX0_fewestToHold_61 rfl (by decide) rfl rfl rfl ?_
          refine j_goto (pc' := 9) dX0_fewestToHold_64 (by decide) ?_
          exact ih9 _ (by omega) b (s + 1) (by omega) (by unfold fth at hv ⊢; rw [foldI_s (by omega), ← hv]; unfold fthG; first | rw [if_pos (by omega)] | rw [if_neg (by omega)]) (by omega) rfl
        · refine j_iload_n (pc' := 28) (z := s) dX0_fewestToHold_27 rfl rfl ?_
          refine j_callS (pc' := 31) (as := [aI s]) (rest := []) dX0_fewestToHold_28 rfl s_Car_118 (c_bitCount (by omega)) rfl rfl rfl (jdet (st' := [aI (pop s)]) rfl ?_)
          refine j_iload_n (pc' := 32) (z := b) dX0_fewestToHold_31 rfl rfl ?_
          refine j_callS (pc' := 35) (as := [aI b]) (rest := [aI (pop s)]) dX0_fewestToHold_32 rfl s_Car_118 (c_bitCount (by omega)) rfl rfl rfl (jdet (st' := [aI (pop b), aI (pop s)]) rfl ?_)
          have hp1 := pop_bd' (x := s) (by omega)
          have hp2 := pop_bd' (x := b) (by omega)
          refine j_icmp_ge (tgt := 61) (pc' := 38) dX0_fewestToHold_35 (by decide) rfl (by omega) (by omega) (fun h35 => ?_) (fun h35 => ?_)
          · refine j_iinc (pc' := 64) (z := s) (L' := [some (aR c), some (aI (freS D n)), some (aI b), some (aI (s + 1))]) dX0_fewestToHold_61 rfl (by decide) rfl rfl rfl ?_
            refine j_goto (pc' := 9) dX0_fewestToHold_64 (by decide) ?_
            exact ih9 _ (by omega) b (s + 1) (by omega) (by unfold fth at hv ⊢; rw [foldI_s (by omega), ← hv]; unfold fthG; first | rw [if_pos (by omega)] | rw [if_neg (by omega)]) (by omega) rfl
          · refine j_aload_n (pc' := 39) (z := c) dX0_fewestToHold_38 rfl rfl ?_
            refine j_iload_n (pc' := 40) (z := s) dX0_fewestToHold_39 rfl rfl ?_
            refine j_iconst (pc' := 41) dX0_fewestToHold_40 rfl ?_
            refine j_aload_n (pc' := 42) (z := c) dX0_fewestToHold_41 rfl rfl ?_
            refine j_get (pc' := 45) (v := aR (c + 7)) dX0_fewestToHold_42 rfl f_Car_34 (by omega) hO rfl ?_
            refine j_iconst (pc' := 46) dX0_fewestToHold_45 rfl ?_
            refine j_iald (pc' := 47) dX0_fewestToHold_46 rfl (by omega) a7 (by omega) (by decide) ?_
            refine j_callV (pc' := 50) (as := [aI s, aI 0, aI (D 6 0)]) (rest := []) dX0_fewestToHold_47 rfl s_Car_112 (c_Car_soundOfAllBut hC0 hB0 hK0 hc (by omega) (by omega) (by omega)) (by omega) hO rfl rfl rfl rfl (jdet (st' := [aI (sab D n s 0 (D 6 0))]) rfl ?_)
            refine j_aload_n (pc' := 51) (z := c) dX0_fewestToHold_50 rfl rfl ?_
            refine j_get (pc' := 54) (v := aR (c + 7)) dX0_fewestToHold_51 rfl f_Car_34 (by omega) hO rfl ?_
            refine j_iconst (pc' := 55) dX0_fewestToHold_54 rfl ?_
            refine j_iald (pc' := 56) dX0_fewestToHold_55 rfl (by omega) a7 (by omega) (by decide) ?_
            have hsb := sab_bd (set := s) (seat := 0) (pace := D 6 0) hB0
            refine j_icmp_gt (tgt := 61) (pc' := 59) dX0_fewestToHold_56 (by decide) rfl (by omega) (by omega) (fun h56 => ?_) (fun h56 => ?_)
            · refine j_iinc (pc' := 64) (z := s) (L' := [some (aR c), some (aI (freS D n)), some (aI b), some (aI (s + 1))]) dX0_fewestToHold_61 rfl (by decide) rfl rfl rfl ?_
              refine j_goto (pc' := 9) dX0_fewestToHold_64 (by decide) ?_
              exact ih9 _ (by omega) b (s + 1) (by omega) (by unfold fth at hv ⊢; rw [foldI_s (by omega), ← hv]; unfold fthG; first | rw [if_pos (by omega)] | rw [if_neg (by omega)]) (by omega) rfl
            · refine j_iload_n (pc' := 60) (z := s) dX0_fewestToHold_59 rfl rfl ?_
              refine j_istore_n (pc' := 61) (L' := [some (aR c), some (aI (freS D n)), some (aI s), some (aI s)]) dX0_fewestToHold_60 rfl (by decide) rfl ?_
              refine j_iinc (pc' := 64) (z := s) (L' := [some (aR c), some (aI (freS D n)), some (aI s), some (aI (s + 1))]) dX0_fewestToHold_61 rfl (by decide) rfl rfl rfl ?_
              refine j_goto (pc' := 9) dX0_fewestToHold_64 (by decide) ?_
              exact ih9 _ (by omega) s (s + 1) (by omega) (by unfold fth at hv ⊢; rw [foldI_s (by omega), ← hv]; unfold fthG; first | rw [if_pos (by omega)] | rw [if_neg (by omega)]) (by omega) rfl
  exact lp9 _ (freS D n) 0 (by omega) (by rfl) (by omega) rfl
set_option maxRecDepth 100000 in
set_option maxHeartbeats 4000000 in
theorem c_Car_takeStates {l : Launch} {w : AW} {c : Nat} {D : Int → Int → Int} {n mi : Int} {q : Nat} {ct k f so sz : Int} {E : Int → Int}  (hC : CarAt w c D n mi) (hB : CarOK D n mi) (hK : KindsAt w) (hc : 10 ≤ c ∧ c + 8 ≤ 68) (hS : ShelfAt w q ct k f so sz E) (hH : ShelfOK ct k f so sz E) (hq : c + 8 ≤ q ∧ q + 2 ≤ 68) (hszn : sz ≤ n) : Call l m_Car_takeStates false 68 68 [aR c, aR q] w (rt none (carW w c (tsD D sz E so) n mi)) := by
  have hC0 := hC
  have hB0 := hB
  have hK0 := hK
  obtain ⟨hO, a1, a2, a3, a4, a5, a6, a7⟩ := hC
  obtain ⟨hn, hD, hs0, hs1, hs2, hs3⟩ := hB
  obtain ⟨kk, t0, t1, t2, t3, t4, t5, t6, t7⟩ := hK
  have hS0 := hS
  have hH0 := hH
  obtain ⟨hO2, hE⟩ := hS
  obtain ⟨hct, hkk, hff, hso, hsz, hEb⟩ := hH
  refine Call.of (L := [some (aR c), some (aR q), none]) rfl (Nat.le_of_ble_eq_true rfl) rfl (fun G ad => ?_)
  refine j_iconst (pc' := 1) dX0_takeStates_0 rfl ?_
  refine j_istore_n (pc' := 2) (L' := [some (aR c), some (aR q), some (aI 0)]) dX0_takeStates_1 rfl (by decide) rfl ?_
  have lp2 : ∀ (k9 : Nat) (i : Int), (0 ≤ i ∧ i ≤ sz) → ((sz - i).toNat) = k9 → J l m_Car_takeStates ad G [] false (jZ ad G false 68 m_Car_takeStates.2.2.2.2.cells m_Car_takeStates.2.2.2.2.slots (rt none (carW w c (tsD D sz E so) n mi))) 68 0 0 2 [some (aR c), some (aR q), some (aI i)] [] (up w (c + 5) (eI 7 (tsD D i E so 4))) := by
    intro k9
    induction k9 using Nat.strongRecOn with
    | _ k9 ih2 =>
      intro i hi hk2
      refine j_iload_n (pc' := 3) (z := i) dX0_takeStates_2 rfl rfl ?_
      refine j_aload_n (pc' := 4) (z := c) dX0_takeStates_3 rfl rfl ?_
      refine j_get (pc' := 7) (v := aI n) dX0_takeStates_4 rfl f_Car_37 (by omega) ((up_n (by omega)).trans hO) rfl ?_
      refine j_icmp_ge (tgt := 44) (pc' := 10) dX0_takeStates_7 (by decide) rfl (by omega) (by omega) (fun h7 => ?_) (fun h7 => ?_)
      · exact j_vret dX0_takeStates_44 rfl (rt_w (by rw [show i = sz by omega]; apply carW_ext <;> first | (intro j9 hj9; simp only [up]; (repeat' split) <;> first | rfl | (exfalso; omega)) | simp [up, tsD_o, *]))
      · refine j_iload_n (pc' := 11) (z := i) dX0_takeStates_10 rfl rfl ?_
        refine j_aload_n (pc' := 12) (z := q) dX0_takeStates_11 rfl rfl ?_
        refine j_get (pc' := 15) (v := aI sz) dX0_takeStates_12 rfl f_Car_87 (by omega) ((up_n (by omega)).trans hO2) rfl ?_
        refine j_icmp_ge (tgt := 44) (pc' := 18) dX0_takeStates_15 (by decide) rfl (by omega) (by omega) (fun h15 => ?_) (fun h15 => ?_)
        · exact j_vret dX0_takeStates_44 rfl (rt_w (by rw [show i = sz by omega]; apply carW_ext <;> first | (intro j9 hj9; simp only [up]; (repeat' split) <;> first | rfl | (exfalso; omega)) | simp [up, tsD_o, *]))
        · refine j_aload_n (pc' := 19) (z := q) dX0_takeStates_18 rfl rfl ?_
          refine j_iload_n (pc' := 20) (z := i) dX0_takeStates_19 rfl rfl ?_
          refine j_callV (pc' := 23) (as := [aI i]) (rest := []) dX0_takeStates_20 rfl s_Car_92 (c_Shelf_skips ⟨((up_n (by omega)).trans hO2), ((up_n (by omega)).trans hE)⟩ hH0 (by omega) (by omega)) (by omega) ((up_n (by omega)).trans hO2) rfl rfl rfl rfl (jdet (st' := [aB ((0 ≤ i ∧ i < sz) ∧ E i = least so)]) rfl ?_)
          refine j_ifb_ne (tgt := 38) (pc' := 26) dX0_takeStates_23 (by decide) rfl (fun h23 => ?_) (fun h23 => ?_)
          · refine j_iinc (pc' := 41) (z := i) (L' := [some (aR c), some (aR q), some (aI (i + 1))]) dX0_takeStates_38 rfl (by decide) rfl rfl rfl ?_
            refine j_goto (pc' := 2) dX0_takeStates_41 (by decide) ?_
            refine j_w (w' := up w (c + 5) (eI 7 (tsD D (i + 1) E so 4))) (by first | (rw [tsD_0]; funext j9; simp only [up]; (repeat' split) <;> first | rfl | (subst_vars; assumption) | (exfalso; omega)) | rw [tsD_s (D := D) (i := i) (by omega) (by omega)] | rw [tsD_k (D := D) (i := i) (by omega)]) ?_
            exact ih2 _ (by omega) (i + 1) (by omega) rfl
          · refine j_aload_n (pc' := 27) (z := c) dX0_takeStates_26 rfl rfl ?_
            refine j_get (pc' := 30) (v := aR (c + 5)) dX0_takeStates_27 rfl f_Car_28 (by omega) ((up_n (by omega)).trans hO) rfl ?_
            refine j_iload_n (pc' := 31) (z := i) dX0_takeStates_30 rfl rfl ?_
            refine j_aload_n (pc' := 32) (z := q) dX0_takeStates_31 rfl rfl ?_
            refine j_get (pc' := 35) (v := aR (q + 1)) dX0_takeStates_32 rfl f_Car_95 (by omega) ((up_n (by omega)).trans hO2) rfl ?_
            refine j_iload_n (pc' := 36) (z := i) dX0_takeStates_35 rfl rfl ?_
            refine j_iald (pc' := 37) dX0_takeStates_36 rfl (by omega) ((up_n (by omega)).trans hE) (by omega) (by decide) ?_
            refine j_iast (pc' := 38) dX0_takeStates_37 rfl (by omega) up_s (by omega) (by decide) ?_
            refine j_w (w' := up w (c + 5) (eI 7 (upi (tsD D i E so 4) i (E i)))) (by funext j9; simp only [up]; (repeat' split) <;> first | rfl | (exfalso; omega)) ?_
            refine j_iinc (pc' := 41) (z := i) (L' := [some (aR c), some (aR q), some (aI (i + 1))]) dX0_takeStates_38 rfl (by decide) rfl rfl rfl ?_
            refine j_goto (pc' := 2) dX0_takeStates_41 (by decide) ?_
            refine j_w (w' := up w (c + 5) (eI 7 (tsD D (i + 1) E so 4))) (by first | (rw [tsD_0]; funext j9; simp only [up]; (repeat' split) <;> first | rfl | (subst_vars; assumption) | (exfalso; omega)) | rw [tsD_s (D := D) (i := i) (by omega) (by omega)] | rw [tsD_k (D := D) (i := i) (by omega)]) ?_
            exact ih2 _ (by omega) (i + 1) (by omega) rfl
  refine j_w (w' := up w (c + 5) (eI 7 (tsD D 0 E so 4))) (by first | (rw [tsD_0]; funext j9; simp only [up]; (repeat' split) <;> first | rfl | (subst_vars; assumption) | (exfalso; omega)) | rw [tsD_s (D := D) (i := i) (by omega) (by omega)] | rw [tsD_k (D := D) (i := i) (by omega)]) ?_
  exact lp2 _ 0 (by omega) rfl
set_option maxRecDepth 100000 in
set_option maxHeartbeats 4000000 in
theorem c_Car_becomes {l : Launch} {w : AW} {c o : Nat} {D Do : Int → Int → Int} {n mi no mo : Int} (hC : CarAt w c D n mi) (hX : CarAt w o Do no mo) (hc : 10 ≤ c ∧ c + 8 ≤ 68) (ho : 10 ≤ o ∧ o + 8 ≤ 68) (hd : c + 8 ≤ o ∨ o + 8 ≤ c) : Call l m_Car_becomes false 68 68 [aR c, aR o] w (rt none (carW w c Do no mo)) := by
  obtain ⟨hO, a1, a2, a3, a4, a5, a6, a7⟩ := hC
  obtain ⟨xhO, xa1, xa2, xa3, xa4, xa5, xa6, xa7⟩ := hX
  refine Call.of (L := [some (aR c), some (aR o)]) rfl (Nat.le_of_ble_eq_true rfl) rfl (fun G ad => ?_)
  refine j_aload_n (pc' := 1) (z := o) dX0_becomes_0 rfl rfl ?_
  refine j_get (pc' := 4) (v := aR (o + 1)) dX0_becomes_1 rfl f_Car_15 (by omega) xhO rfl ?_
  refine j_iconst (pc' := 5) dX0_becomes_4 rfl ?_
  refine j_aload_n (pc' := 6) (z := c) dX0_becomes_5 rfl rfl ?_
  refine j_get (pc' := 9) (v := aR (c + 1)) dX0_becomes_6 rfl f_Car_15 (by omega) hO rfl ?_
  refine j_iconst (pc' := 10) dX0_becomes_9 rfl ?_
  refine j_bipush (pc' := 12) dX0_becomes_10 rfl (by decide) ?_
  refine j_acopy (pc' := 15) rfl dX0_becomes_12 rfl s_Car_44 rfl (by omega) (by omega) xa1 a1 (by omega) (by omega) (by omega) (by omega) (by omega) (by decide) (by decide) ?_
  refine j_aload_n (pc' := 16) (z := o) dX0_becomes_15 rfl rfl ?_
  refine j_get (pc' := 19) (v := aR (o + 2)) dX0_becomes_16 rfl f_Car_19 (by omega) ((up_n (by omega)).trans xhO) rfl ?_
  refine j_iconst (pc' := 20) dX0_becomes_19 rfl ?_
  refine j_aload_n (pc' := 21) (z := c) dX0_becomes_20 rfl rfl ?_
  refine j_get (pc' := 24) (v := aR (c + 2)) dX0_becomes_21 rfl f_Car_19 (by omega) ((up_n (by omega)).trans hO) rfl ?_
  refine j_iconst (pc' := 25) dX0_becomes_24 rfl ?_
  refine j_bipush (pc' := 27) dX0_becomes_25 rfl (by decide) ?_
  refine j_acopy (pc' := 30) rfl dX0_becomes_27 rfl s_Car_44 rfl (by omega) (by omega) ((up_n (by omega)).trans xa2) ((up_n (by omega)).trans a2) (by omega) (by omega) (by omega) (by omega) (by omega) (by decide) (by decide) ?_
  refine j_aload_n (pc' := 31) (z := o) dX0_becomes_30 rfl rfl ?_
  refine j_get (pc' := 34) (v := aR (o + 3)) dX0_becomes_31 rfl f_Car_22 (by omega) ((up_n (by omega)).trans ((up_n (by omega)).trans xhO)) rfl ?_
  refine j_iconst (pc' := 35) dX0_becomes_34 rfl ?_
  refine j_aload_n (pc' := 36) (z := c) dX0_becomes_35 rfl rfl ?_
  refine j_get (pc' := 39) (v := aR (c + 3)) dX0_becomes_36 rfl f_Car_22 (by omega) ((up_n (by omega)).trans ((up_n (by omega)).trans hO)) rfl ?_
  refine j_iconst (pc' := 40) dX0_becomes_39 rfl ?_
  refine j_bipush (pc' := 42) dX0_becomes_40 rfl (by decide) ?_
  refine j_acopy (pc' := 45) rfl dX0_becomes_42 rfl s_Car_44 rfl (by omega) (by omega) ((up_n (by omega)).trans ((up_n (by omega)).trans xa3)) ((up_n (by omega)).trans ((up_n (by omega)).trans a3)) (by omega) (by omega) (by omega) (by omega) (by omega) (by decide) (by decide) ?_
  refine j_aload_n (pc' := 46) (z := o) dX0_becomes_45 rfl rfl ?_
  refine j_get (pc' := 49) (v := aR (o + 4)) dX0_becomes_46 rfl f_Car_25 (by omega) ((up_n (by omega)).trans ((up_n (by omega)).trans ((up_n (by omega)).trans xhO))) rfl ?_
  refine j_iconst (pc' := 50) dX0_becomes_49 rfl ?_
  refine j_aload_n (pc' := 51) (z := c) dX0_becomes_50 rfl rfl ?_
  refine j_get (pc' := 54) (v := aR (c + 4)) dX0_becomes_51 rfl f_Car_25 (by omega) ((up_n (by omega)).trans ((up_n (by omega)).trans ((up_n (by omega)).trans hO))) rfl ?_
  refine j_iconst (pc' := 55) dX0_becomes_54 rfl ?_
  refine j_bipush (pc' := 57) dX0_becomes_55 rfl (by decide) ?_
  refine j_acopy (pc' := 60) rfl dX0_becomes_57 rfl s_Car_44 rfl (by omega) (by omega) ((up_n (by omega)).trans ((up_n (by omega)).trans ((up_n (by omega)).trans xa4))) ((up_n (by omega)).trans ((up_n (by omega)).trans ((up_n (by omega)).trans a4))) (by omega) (by omega) (by omega) (by omega) (by omega) (by decide) (by decide) ?_
  refine j_aload_n (pc' := 61) (z := o) dX0_becomes_60 rfl rfl ?_
  refine j_get (pc' := 64) (v := aR (o + 5)) dX0_becomes_61 rfl f_Car_28 (by omega) ((up_n (by omega)).trans ((up_n (by omega)).trans ((up_n (by omega)).trans ((up_n (by omega)).trans xhO)))) rfl ?_
  refine j_iconst (pc' := 65) dX0_becomes_64 rfl ?_
  refine j_aload_n (pc' := 66) (z := c) dX0_becomes_65 rfl rfl ?_
  refine j_get (pc' := 69) (v := aR (c + 5)) dX0_becomes_66 rfl f_Car_28 (by omega) ((up_n (by omega)).trans ((up_n (by omega)).trans ((up_n (by omega)).trans ((up_n (by omega)).trans hO)))) rfl ?_
  refine j_iconst (pc' := 70) dX0_becomes_69 rfl ?_
  refine j_bipush (pc' := 72) dX0_becomes_70 rfl (by decide) ?_
  refine j_acopy (pc' := 75) rfl dX0_becomes_72 rfl s_Car_44 rfl (by omega) (by omega) ((up_n (by omega)).trans ((up_n (by omega)).trans ((up_n (by omega)).trans ((up_n (by omega)).trans xa5)))) ((up_n (by omega)).trans ((up_n (by omega)).trans ((up_n (by omega)).trans ((up_n (by omega)).trans a5)))) (by omega) (by omega) (by omega) (by omega) (by omega) (by decide) (by decide) ?_
  refine j_aload_n (pc' := 76) (z := o) dX0_becomes_75 rfl rfl ?_
  refine j_get (pc' := 79) (v := aR (o + 6)) dX0_becomes_76 rfl f_Car_31 (by omega) ((up_n (by omega)).trans ((up_n (by omega)).trans ((up_n (by omega)).trans ((up_n (by omega)).trans ((up_n (by omega)).trans xhO))))) rfl ?_
  refine j_iconst (pc' := 80) dX0_becomes_79 rfl ?_
  refine j_aload_n (pc' := 81) (z := c) dX0_becomes_80 rfl rfl ?_
  refine j_get (pc' := 84) (v := aR (c + 6)) dX0_becomes_81 rfl f_Car_31 (by omega) ((up_n (by omega)).trans ((up_n (by omega)).trans ((up_n (by omega)).trans ((up_n (by omega)).trans ((up_n (by omega)).trans hO))))) rfl ?_
  refine j_iconst (pc' := 85) dX0_becomes_84 rfl ?_
  refine j_bipush (pc' := 87) dX0_becomes_85 rfl (by decide) ?_
  refine j_acopy (pc' := 90) rfl dX0_becomes_87 rfl s_Car_44 rfl (by omega) (by omega) ((up_n (by omega)).trans ((up_n (by omega)).trans ((up_n (by omega)).trans ((up_n (by omega)).trans ((up_n (by omega)).trans xa6))))) ((up_n (by omega)).trans ((up_n (by omega)).trans ((up_n (by omega)).trans ((up_n (by omega)).trans ((up_n (by omega)).trans a6))))) (by omega) (by omega) (by omega) (by omega) (by omega) (by decide) (by decide) ?_
  refine j_aload_n (pc' := 91) (z := o) dX0_becomes_90 rfl rfl ?_
  refine j_get (pc' := 94) (v := aR (o + 7)) dX0_becomes_91 rfl f_Car_34 (by omega) ((up_n (by omega)).trans ((up_n (by omega)).trans ((up_n (by omega)).trans ((up_n (by omega)).trans ((up_n (by omega)).trans ((up_n (by omega)).trans xhO)))))) rfl ?_
  refine j_iconst (pc' := 95) dX0_becomes_94 rfl ?_
  refine j_aload_n (pc' := 96) (z := c) dX0_becomes_95 rfl rfl ?_
  refine j_get (pc' := 99) (v := aR (c + 7)) dX0_becomes_96 rfl f_Car_34 (by omega) ((up_n (by omega)).trans ((up_n (by omega)).trans ((up_n (by omega)).trans ((up_n (by omega)).trans ((up_n (by omega)).trans ((up_n (by omega)).trans hO)))))) rfl ?_
  refine j_iconst (pc' := 100) dX0_becomes_99 rfl ?_
  refine j_aload_n (pc' := 101) (z := c) dX0_becomes_100 rfl rfl ?_
  refine j_get (pc' := 104) (v := aR (c + 7)) dX0_becomes_101 rfl f_Car_34 (by omega) ((up_n (by omega)).trans ((up_n (by omega)).trans ((up_n (by omega)).trans ((up_n (by omega)).trans ((up_n (by omega)).trans ((up_n (by omega)).trans hO)))))) rfl ?_
  refine j_alen (pc' := 105) dX0_becomes_104 rfl (by omega) ((up_n (by omega)).trans ((up_n (by omega)).trans ((up_n (by omega)).trans ((up_n (by omega)).trans ((up_n (by omega)).trans ((up_n (by omega)).trans a7)))))) ?_
  refine j_st (st' := [aI 4, aI 0, aR (c + 7), aI 0, aR (o + 7)]) rfl ?_
  refine j_acopy (pc' := 108) rfl dX0_becomes_105 rfl s_Car_44 rfl (by omega) (by omega) ((up_n (by omega)).trans ((up_n (by omega)).trans ((up_n (by omega)).trans ((up_n (by omega)).trans ((up_n (by omega)).trans ((up_n (by omega)).trans xa7)))))) ((up_n (by omega)).trans ((up_n (by omega)).trans ((up_n (by omega)).trans ((up_n (by omega)).trans ((up_n (by omega)).trans ((up_n (by omega)).trans a7)))))) (by omega) (by omega) (by omega) (by omega) (by omega) (by decide) (by decide) ?_
  refine j_aload_n (pc' := 109) (z := c) dX0_becomes_108 rfl rfl ?_
  refine j_aload_n (pc' := 110) (z := o) dX0_becomes_109 rfl rfl ?_
  refine j_get (pc' := 113) (v := aI no) dX0_becomes_110 rfl f_Car_37 (by omega) ((up_n (by omega)).trans ((up_n (by omega)).trans ((up_n (by omega)).trans ((up_n (by omega)).trans ((up_n (by omega)).trans ((up_n (by omega)).trans ((up_n (by omega)).trans xhO))))))) rfl ?_
  refine j_putI (pc' := 116) dX0_becomes_113 rfl p_Car_37 (by omega) ((up_n (by omega)).trans ((up_n (by omega)).trans ((up_n (by omega)).trans ((up_n (by omega)).trans ((up_n (by omega)).trans ((up_n (by omega)).trans ((up_n (by omega)).trans hO))))))) (Nat.le_of_ble_eq_true rfl) ?_
  refine j_w (w' := up (up (up (up (up (up (up (up w (c + 1) (eI 7 (cpyI (Do 0) (D 0) 0 0 7))) (c + 2) (eI 7 (cpyI (Do 1) (D 1) 0 0 7))) (c + 3) (eI 7 (cpyI (Do 2) (D 2) 0 0 7))) (c + 4) (eI 7 (cpyI (Do 3) (D 3) 0 0 7))) (c + 5) (eI 7 (cpyI (Do 4) (D 4) 0 0 7))) (c + 6) (eI 7 (cpyI (Do 5) (D 5) 0 0 7))) (c + 7) (eI 4 (cpyI (Do 6) (D 6) 0 0 4))) c (eO 0 [aR 1, aR (c + 1), aR (c + 2), aR (c + 3), aR (c + 4), aR (c + 5), aR (c + 6), aR (c + 7), aI no, aI mi])) rfl ?_
  refine j_aload_n (pc' := 117) (z := c) dX0_becomes_116 rfl rfl ?_
  refine j_aload_n (pc' := 118) (z := o) dX0_becomes_117 rfl rfl ?_
  refine j_get (pc' := 121) (v := aI mo) dX0_becomes_118 rfl f_Car_41 (by omega) ((up_n (by omega)).trans ((up_n (by omega)).trans ((up_n (by omega)).trans ((up_n (by omega)).trans ((up_n (by omega)).trans ((up_n (by omega)).trans ((up_n (by omega)).trans ((up_n (by omega)).trans xhO)))))))) rfl ?_
  refine j_putI (pc' := 124) dX0_becomes_121 rfl p_Car_41 (by omega) up_s (Nat.le_of_ble_eq_true rfl) ?_
  refine j_w (w' := up (up (up (up (up (up (up (up w (c + 1) (eI 7 (cpyI (Do 0) (D 0) 0 0 7))) (c + 2) (eI 7 (cpyI (Do 1) (D 1) 0 0 7))) (c + 3) (eI 7 (cpyI (Do 2) (D 2) 0 0 7))) (c + 4) (eI 7 (cpyI (Do 3) (D 3) 0 0 7))) (c + 5) (eI 7 (cpyI (Do 4) (D 4) 0 0 7))) (c + 6) (eI 7 (cpyI (Do 5) (D 5) 0 0 7))) (c + 7) (eI 4 (cpyI (Do 6) (D 6) 0 0 4))) c (eO 0 [aR 1, aR (c + 1), aR (c + 2), aR (c + 3), aR (c + 4), aR (c + 5), aR (c + 6), aR (c + 7), aI no, aI mo])) (by funext j9; simp only [up]; (repeat' split) <;> first | rfl | (exfalso; omega)) ?_
  refine j_ext (q := c + 1) (n := 7) (g := Do 0) (by omega) ((up_n (by omega)).trans ((up_n (by omega)).trans ((up_n (by omega)).trans ((up_n (by omega)).trans ((up_n (by omega)).trans ((up_n (by omega)).trans ((up_n (by omega)).trans up_s))))))) (fun i9 g1 g2 => by unfold cpyI; rw [if_pos (by omega)]; congr 1; omega) ?_
  refine j_w (w' := up (up (up (up (up (up (up (up w (c + 1) (eI 7 (Do 0))) (c + 2) (eI 7 (cpyI (Do 1) (D 1) 0 0 7))) (c + 3) (eI 7 (cpyI (Do 2) (D 2) 0 0 7))) (c + 4) (eI 7 (cpyI (Do 3) (D 3) 0 0 7))) (c + 5) (eI 7 (cpyI (Do 4) (D 4) 0 0 7))) (c + 6) (eI 7 (cpyI (Do 5) (D 5) 0 0 7))) (c + 7) (eI 4 (cpyI (Do 6) (D 6) 0 0 4))) c (eO 0 [aR 1, aR (c + 1), aR (c + 2), aR (c + 3), aR (c + 4), aR (c + 5), aR (c + 6), aR (c + 7), aI no, aI mo])) (by funext j9; simp only [up]; (repeat' split) <;> first | rfl | (exfalso; omega)) ?_
  refine j_ext (q := c + 2) (n := 7) (g := Do 1) (by omega) ((up_n (by omega)).trans ((up_n (by omega)).trans ((up_n (by omega)).trans ((up_n (by omega)).trans ((up_n (by omega)).trans ((up_n (by omega)).trans up_s)))))) (fun i9 g1 g2 => by unfold cpyI; rw [if_pos (by omega)]; congr 1; omega) ?_
  refine j_w (w' := up (up (up (up (up (up (up (up w (c + 1) (eI 7 (Do 0))) (c + 2) (eI 7 (Do 1))) (c + 3) (eI 7 (cpyI (Do 2) (D 2) 0 0 7))) (c + 4) (eI 7 (cpyI (Do 3) (D 3) 0 0 7))) (c + 5) (eI 7 (cpyI (Do 4) (D 4) 0 0 7))) (c + 6) (eI 7 (cpyI (Do 5) (D 5) 0 0 7))) (c + 7) (eI 4 (cpyI (Do 6) (D 6) 0 0 4))) c (eO 0 [aR 1, aR (c + 1), aR (c + 2), aR (c + 3), aR (c + 4), aR (c + 5), aR (c + 6), aR (c + 7), aI no, aI mo])) (by funext j9; simp only [up]; (repeat' split) <;> first | rfl | (exfalso; omega)) ?_
  refine j_ext (q := c + 3) (n := 7) (g := Do 2) (by omega) ((up_n (by omega)).trans ((up_n (by omega)).trans ((up_n (by omega)).trans ((up_n (by omega)).trans ((up_n (by omega)).trans up_s))))) (fun i9 g1 g2 => by unfold cpyI; rw [if_pos (by omega)]; congr 1; omega) ?_
  refine j_w (w' := up (up (up (up (up (up (up (up w (c + 1) (eI 7 (Do 0))) (c + 2) (eI 7 (Do 1))) (c + 3) (eI 7 (Do 2))) (c + 4) (eI 7 (cpyI (Do 3) (D 3) 0 0 7))) (c + 5) (eI 7 (cpyI (Do 4) (D 4) 0 0 7))) (c + 6) (eI 7 (cpyI (Do 5) (D 5) 0 0 7))) (c + 7) (eI 4 (cpyI (Do 6) (D 6) 0 0 4))) c (eO 0 [aR 1, aR (c + 1), aR (c + 2), aR (c + 3), aR (c + 4), aR (c + 5), aR (c + 6), aR (c + 7), aI no, aI mo])) (by funext j9; simp only [up]; (repeat' split) <;> first | rfl | (exfalso; omega)) ?_
  refine j_ext (q := c + 4) (n := 7) (g := Do 3) (by omega) ((up_n (by omega)).trans ((up_n (by omega)).trans ((up_n (by omega)).trans ((up_n (by omega)).trans up_s)))) (fun i9 g1 g2 => by unfold cpyI; rw [if_pos (by omega)]; congr 1; omega) ?_
  refine j_w (w' := up (up (up (up (up (up (up (up w (c + 1) (eI 7 (Do 0))) (c + 2) (eI 7 (Do 1))) (c + 3) (eI 7 (Do 2))) (c + 4) (eI 7 (Do 3))) (c + 5) (eI 7 (cpyI (Do 4) (D 4) 0 0 7))) (c + 6) (eI 7 (cpyI (Do 5) (D 5) 0 0 7))) (c + 7) (eI 4 (cpyI (Do 6) (D 6) 0 0 4))) c (eO 0 [aR 1, aR (c + 1), aR (c + 2), aR (c + 3), aR (c + 4), aR (c + 5), aR (c + 6), aR (c + 7), aI no, aI mo])) (by funext j9; simp only [up]; (repeat' split) <;> first | rfl | (exfalso; omega)) ?_
  refine j_ext (q := c + 5) (n := 7) (g := Do 4) (by omega) ((up_n (by omega)).trans ((up_n (by omega)).trans ((up_n (by omega)).trans up_s))) (fun i9 g1 g2 => by unfold cpyI; rw [if_pos (by omega)]; congr 1; omega) ?_
  refine j_w (w' := up (up (up (up (up (up (up (up w (c + 1) (eI 7 (Do 0))) (c + 2) (eI 7 (Do 1))) (c + 3) (eI 7 (Do 2))) (c + 4) (eI 7 (Do 3))) (c + 5) (eI 7 (Do 4))) (c + 6) (eI 7 (cpyI (Do 5) (D 5) 0 0 7))) (c + 7) (eI 4 (cpyI (Do 6) (D 6) 0 0 4))) c (eO 0 [aR 1, aR (c + 1), aR (c + 2), aR (c + 3), aR (c + 4), aR (c + 5), aR (c + 6), aR (c + 7), aI no, aI mo])) (by funext j9; simp only [up]; (repeat' split) <;> first | rfl | (exfalso; omega)) ?_
  refine j_ext (q := c + 6) (n := 7) (g := Do 5) (by omega) ((up_n (by omega)).trans ((up_n (by omega)).trans up_s)) (fun i9 g1 g2 => by unfold cpyI; rw [if_pos (by omega)]; congr 1; omega) ?_
  refine j_w (w' := up (up (up (up (up (up (up (up w (c + 1) (eI 7 (Do 0))) (c + 2) (eI 7 (Do 1))) (c + 3) (eI 7 (Do 2))) (c + 4) (eI 7 (Do 3))) (c + 5) (eI 7 (Do 4))) (c + 6) (eI 7 (Do 5))) (c + 7) (eI 4 (cpyI (Do 6) (D 6) 0 0 4))) c (eO 0 [aR 1, aR (c + 1), aR (c + 2), aR (c + 3), aR (c + 4), aR (c + 5), aR (c + 6), aR (c + 7), aI no, aI mo])) (by funext j9; simp only [up]; (repeat' split) <;> first | rfl | (exfalso; omega)) ?_
  refine j_ext (q := c + 7) (n := 4) (g := Do 6) (by omega) ((up_n (by omega)).trans up_s) (fun i9 g1 g2 => by unfold cpyI; rw [if_pos (by omega)]; congr 1; omega) ?_
  refine j_w (w' := up (up (up (up (up (up (up (up w (c + 1) (eI 7 (Do 0))) (c + 2) (eI 7 (Do 1))) (c + 3) (eI 7 (Do 2))) (c + 4) (eI 7 (Do 3))) (c + 5) (eI 7 (Do 4))) (c + 6) (eI 7 (Do 5))) (c + 7) (eI 4 (Do 6))) c (eO 0 [aR 1, aR (c + 1), aR (c + 2), aR (c + 3), aR (c + 4), aR (c + 5), aR (c + 6), aR (c + 7), aI no, aI mo])) (by funext j9; simp only [up]; (repeat' split) <;> first | rfl | (exfalso; omega)) ?_
  exact j_vret dX0_becomes_124 rfl (rt_w (by apply carW_ext <;> first | (intro j9 hj9; simp only [up]; (repeat' split) <;> first | rfl | (exfalso; omega)) | simp [up]))
