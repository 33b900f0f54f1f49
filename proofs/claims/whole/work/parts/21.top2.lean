def pacH (D : Int → Int → Int) (n s : Int) (p : Int) (x : Int × Int × Int) : Int × Int × Int := if 0 < hrd D n s p then (x.1 + 1, (if x.2.1 = -4 then p else x.2.1), p) else x
def pacF (D : Int → Int → Int) (n s k : Int) : Int × Int × Int := foldI (pacH D n s) (0, -4, -4) k
def pacesA (D : Int → Int → Int) (n s what : Int) : Int := if (0 ≤ s ∧ s ≤ 3) ∧ (0 ≤ what ∧ what ≤ 2) then (if what = 0 then (pacF D n s 100).1 else if what = 1 then (pacF D n s 100).2.1 else (pacF D n s 100).2.2) else -1
/-- the first of a, a+1 .. below b with P; -4 none -/
def fstI (P : Int → Bool) (a : Int) : Nat → Int
  | 0 => -4
  | k + 1 => if P a = true then a else fstI P (a + 1) k
def silA (D : Int → Int → Int) (n s p : Int) : Int := if (0 ≤ s ∧ s ≤ 3) ∧ (0 ≤ p ∧ p ≤ 99) then fstI (fun x => decide (hrd D n s x = 0)) p (100 - p).toNat else -1
theorem fstI_y {P : Int → Bool} {a b : Int} (h : a < b) (hp : P a = true) : fstI P a (b - a).toNat = a := by
  rw [show (b - a).toNat = (b - (a + 1)).toNat + 1 by omega, fstI, if_pos hp]
theorem fstI_n {P : Int → Bool} {a b : Int} (h : a < b) (hp : ¬ P a = true) : fstI P a (b - a).toNat = fstI P (a + 1) (b - (a + 1)).toNat := by
  rw [show (b - a).toNat = (b - (a + 1)).toNat + 1 by omega, fstI, if_neg hp]
theorem fstI_z {P : Int → Bool} {a b : Int} (h : b ≤ a) : fstI P a (b - a).toNat = -4 := by
  rw [show (b - a).toNat = 0 by omega, fstI]
def bestH (D : Int → Int → Int) (n : Int) (k b : Int) : Int := if hrd D n b (D 6 0) < hrd D n (k + 1) (D 6 0) then k + 1 else b
def bestA (D : Int → Int → Int) (n : Int) : Int := foldI (bestH D n) 0 3
set_option maxRecDepth 100000 in
set_option maxHeartbeats 4000000 in
theorem c_Top_paces {l : Launch} {w : AW} {D Di : Int → Int → Int} {n mi hi ni mj : Int} {sh E : Int → Int → Int} {s x : Int} (hW : Comp w D n mi hi Di ni mj sh E) (hB : CarOK D n mi) (hI : CarOK Di ni mj) (hhi : hi = 0 ∨ hi = 1) (hsh : ShOK sh E) (hs : inI s) (hx : inI x) : Call l m_Top_paces false 68 68 [aR 0, aI s, aI x] w (jC w (pacesA D n s x) D n mi hi Di ni mj sh E) := by
  have hT := TS.rf hW
  obtain ⟨hO, hK, hC, ⟨Dt, nt, mt, hCt⟩, hCi, hS34, hSh, ⟨po, hPo⟩, ⟨di, hDi⟩⟩ := hW
  obtain ⟨hn, hD, hs0, hs1, hs2, hs3⟩ := id hB
  refine Call.of (L := [some (aR 0), some (aI s), some (aI x), none, none, none, none]) rfl (Nat.le_of_ble_eq_true rfl) rfl (fun G ad => ?_)
  refine j_iload_n (pc' := 1) (z := s) dX11_paces_0 rfl rfl ?_
  refine j_callS (pc' := 4) (as := [aI s]) (rest := []) dX11_paces_1 rfl s_Top_123 (c_isSeat (by omega)) rfl rfl rfl (jdet (st' := [aB (0 ≤ s ∧ s ≤ 3)]) rfl ?_)
  refine j_ifb_eq (tgt := 16) (pc' := 7) dX11_paces_4 (by decide) rfl (fun h4 => ?_) (fun h4 => ?_)
  · refine j_iconst (pc' := 17) dX11_paces_16 rfl ?_
    exact j_iret dX11_paces_17 rfl (jC_of (by unfold pacesA; (repeat' split) <;> first | rfl | omega) hT)
  · refine j_iload_n (pc' := 8) (z := x) dX11_paces_7 rfl rfl ?_
    refine j_iconst (pc' := 9) dX11_paces_8 rfl ?_
    refine j_iconst (pc' := 10) dX11_paces_9 rfl ?_
    refine j_callS (pc' := 13) (as := [aI x, aI 0, aI 2]) (rest := []) dX11_paces_10 rfl s_Top_126 (c_within (by omega) (by omega) (by omega)) rfl rfl rfl (jdet (st' := [aB (0 ≤ x ∧ x ≤ 2)]) rfl ?_)
    refine j_ifb_ne (tgt := 18) (pc' := 16) dX11_paces_13 (by decide) rfl (fun h13 => ?_) (fun h13 => ?_)
    · refine j_iconst (pc' := 19) dX11_paces_18 rfl ?_
      refine j_istore_n (pc' := 20) (L' := [some (aR 0), some (aI s), some (aI x), some (aI 0), none, none, none]) dX11_paces_19 rfl (by decide) rfl ?_
      refine j_bipush (pc' := 22) dX11_paces_20 rfl (by decide) ?_
      refine j_istore (pc' := 24) (L' := [some (aR 0), some (aI s), some (aI x), some (aI 0), some (aI (-4)), none, none]) dX11_paces_22 rfl (by decide) rfl ?_
      refine j_bipush (pc' := 26) dX11_paces_24 rfl (by decide) ?_
      refine j_istore (pc' := 28) (L' := [some (aR 0), some (aI s), some (aI x), some (aI 0), some (aI (-4)), some (aI (-4)), none]) dX11_paces_26 rfl (by decide) rfl ?_
      refine j_iconst (pc' := 29) dX11_paces_28 rfl ?_
      refine j_istore (pc' := 31) (L' := [some (aR 0), some (aI s), some (aI x), some (aI 0), some (aI (-4)), some (aI (-4)), some (aI 0)]) dX11_paces_29 rfl (by decide) rfl ?_
      have lp31 : ∀ (k9 : Nat) (v : Int) (a : Int) (b : Int) (i : Int), (0 ≤ i ∧ i ≤ 100) → ((v, a, b) = pacF D n s i) → ((0 ≤ v ∧ v ≤ 1000) ∧ (-4 ≤ a ∧ a ≤ 100) ∧ (-4 ≤ b ∧ b ≤ 100) ∧ v ≤ i) → ((100 - i).toNat) = k9 → J l m_Top_paces ad G [] false (jZ ad G false 68 m_Top_paces.2.2.2.2.cells m_Top_paces.2.2.2.2.slots (jC w (pacesA D n s x) D n mi hi Di ni mj sh E)) 68 0 0 31 [some (aR 0), some (aI s), some (aI x), some (aI v), some (aI a), some (aI b), some (aI i)] [] w := by
        intro k9
        induction k9 using Nat.strongRecOn with
        | _ k9 ih31 =>
          intro v a b i hi hv hvb hk31
          refine j_iload (pc' := 33) (z := i) dX11_paces_31 rfl rfl ?_
          refine j_bipush (pc' := 35) dX11_paces_33 rfl (by decide) ?_
          refine j_icmp_ge (tgt := 80) (pc' := 38) dX11_paces_35 (by decide) rfl (by omega) (by omega) (fun h35 => ?_) (fun h35 => ?_)
          · refine j_iload_n (pc' := 81) (z := x) dX11_paces_80 rfl rfl ?_
            refine j_if_ne (tgt := 88) (pc' := 84) dX11_paces_81 (by decide) rfl (by omega) (fun h81 => ?_) (fun h81 => ?_)
            · refine j_iload_n (pc' := 89) (z := x) dX11_paces_88 rfl rfl ?_
              refine j_iconst (pc' := 90) dX11_paces_89 rfl ?_
              refine j_icmp_ne (tgt := 98) (pc' := 93) dX11_paces_90 (by decide) rfl (by omega) (by omega) (fun h90 => ?_) (fun h90 => ?_)
              · refine j_iload (pc' := 100) (z := b) dX11_paces_98 rfl rfl ?_
                exact j_iret dX11_paces_100 rfl (jC_of (by unfold pacesA; rw [if_pos (by omega), ← show i = 100 by omega, ← hv]; dsimp only; (repeat' split) <;> first | rfl | omega) hT)
              · refine j_iload (pc' := 95) (z := a) dX11_paces_93 rfl rfl ?_
                refine j_goto (pc' := 100) dX11_paces_95 (by decide) ?_
                exact j_iret dX11_paces_100 rfl (jC_of (by unfold pacesA; rw [if_pos (by omega), ← show i = 100 by omega, ← hv]; dsimp only; (repeat' split) <;> first | rfl | omega) hT)
            · refine j_iload_n (pc' := 85) (z := v) dX11_paces_84 rfl rfl ?_
              refine j_goto (pc' := 100) dX11_paces_85 (by decide) ?_
              exact j_iret dX11_paces_100 rfl (jC_of (by unfold pacesA; rw [if_pos (by omega), ← show i = 100 by omega, ← hv]; dsimp only; (repeat' split) <;> first | rfl | omega) hT)
          · refine j_aload_n (pc' := 39) (z := 0) dX11_paces_38 rfl rfl ?_
            refine j_get (pc' := 42) (v := aR 10) dX11_paces_39 rfl f_Top_42 (by omega) hO rfl ?_
            refine j_iload_n (pc' := 43) (z := s) dX11_paces_42 rfl rfl ?_
            refine j_iload (pc' := 45) (z := i) dX11_paces_43 rfl rfl ?_
            refine j_callV (pc' := 48) (as := [aI s, aI i]) (rest := []) dX11_paces_45 rfl s_Top_167 (c_Car_heardAt hC hB hK (by omega) (by omega) (by omega)) (by omega) hC.1 rfl rfl rfl rfl (jdet (st' := [aI (hrd D n s i)]) rfl ?_)
            have hhb := hrd_bd (seat := s) (pace := i) hB
            refine j_if_le (tgt := 74) (pc' := 51) dX11_paces_48 (by decide) rfl (by omega) (fun h48 => ?_) (fun h48 => ?_)
            · refine j_iinc (pc' := 77) (z := i) (L' := [some (aR 0), some (aI s), some (aI x), some (aI v), some (aI a), some (aI b), some (aI (i + 1))]) dX11_paces_74 rfl (by decide) rfl rfl rfl ?_
              refine j_goto (pc' := 31) dX11_paces_77 (by decide) ?_
              exact ih31 _ (by omega) v a b (i + 1) (by omega) (by unfold pacF at hv ⊢; rw [foldI_s (by omega), ← hv]; unfold pacH; first | (rw [if_pos (by omega)]; dsimp only; first | rw [if_pos (by omega)] | rw [if_neg (by omega)]) | rw [if_neg (by omega)]) (by omega) rfl
            · refine j_iinc (pc' := 54) (z := v) (L' := [some (aR 0), some (aI s), some (aI x), some (aI (v + 1)), some (aI a), some (aI b), some (aI i)]) dX11_paces_51 rfl (by decide) rfl rfl rfl ?_
              refine j_iload (pc' := 56) (z := a) dX11_paces_54 rfl rfl ?_
              refine j_bipush (pc' := 58) dX11_paces_56 rfl (by decide) ?_
              refine j_icmp_ne (tgt := 66) (pc' := 61) dX11_paces_58 (by decide) rfl (by omega) (by omega) (fun h58 => ?_) (fun h58 => ?_)
              · refine j_iload (pc' := 68) (z := a) dX11_paces_66 rfl rfl ?_
                refine j_istore (pc' := 70) (L' := [some (aR 0), some (aI s), some (aI x), some (aI (v + 1)), some (aI a), some (aI b), some (aI i)]) dX11_paces_68 rfl (by decide) rfl ?_
                refine j_iload (pc' := 72) (z := i) dX11_paces_70 rfl rfl ?_
                refine j_istore (pc' := 74) (L' := [some (aR 0), some (aI s), some (aI x), some (aI (v + 1)), some (aI a), some (aI i), some (aI i)]) dX11_paces_72 rfl (by decide) rfl ?_
                refine j_iinc (pc' := 77) (z := i) (L' := [some (aR 0), some (aI s), some (aI x), some (aI (v + 1)), some (aI a), some (aI i), some (aI (i + 1))]) dX11_paces_74 rfl (by decide) rfl rfl rfl ?_
                refine j_goto (pc' := 31) dX11_paces_77 (by decide) ?_
                exact ih31 _ (by omega) (v + 1) a i (i + 1) (by omega) (by unfold pacF at hv ⊢; rw [foldI_s (by omega), ← hv]; unfold pacH; first | (rw [if_pos (by omega)]; dsimp only; first | rw [if_pos (by omega)] | rw [if_neg (by omega)]) | rw [if_neg (by omega)]) (by omega) rfl
              · refine j_iload (pc' := 63) (z := i) dX11_paces_61 rfl rfl ?_
                refine j_goto (pc' := 68) dX11_paces_63 (by decide) ?_
                refine j_istore (pc' := 70) (L' := [some (aR 0), some (aI s), some (aI x), some (aI (v + 1)), some (aI i), some (aI b), some (aI i)]) dX11_paces_68 rfl (by decide) rfl ?_
                refine j_iload (pc' := 72) (z := i) dX11_paces_70 rfl rfl ?_
                refine j_istore (pc' := 74) (L' := [some (aR 0), some (aI s), some (aI x), some (aI (v + 1)), some (aI i), some (aI i), some (aI i)]) dX11_paces_72 rfl (by decide) rfl ?_
                refine j_iinc (pc' := 77) (z := i) (L' := [some (aR 0), some (aI s), some (aI x), some (aI (v + 1)), some (aI i), some (aI i), some (aI (i + 1))]) dX11_paces_74 rfl (by decide) rfl rfl rfl ?_
                refine j_goto (pc' := 31) dX11_paces_77 (by decide) ?_
                exact ih31 _ (by omega) (v + 1) i i (i + 1) (by omega) (by unfold pacF at hv ⊢; rw [foldI_s (by omega), ← hv]; unfold pacH; first | (rw [if_pos (by omega)]; dsimp only; first | rw [if_pos (by omega)] | rw [if_neg (by omega)]) | rw [if_neg (by omega)]) (by omega) rfl
      exact lp31 _ 0 (-4) (-4) 0 (by omega) (by rfl) (by omega) rfl
    · refine j_iconst (pc' := 17) dX11_paces_16 rfl ?_
      exact j_iret dX11_paces_17 rfl (jC_of (by unfold pacesA; (repeat' split) <;> first | rfl | omega) hT)
set_option maxRecDepth 100000 in
set_option maxHeartbeats 4000000 in
theorem c_Top_silentFrom {l : Launch} {w : AW} {D Di : Int → Int → Int} {n mi hi ni mj : Int} {sh E : Int → Int → Int} {s p : Int} (hW : Comp w D n mi hi Di ni mj sh E) (hB : CarOK D n mi) (hI : CarOK Di ni mj) (hhi : hi = 0 ∨ hi = 1) (hsh : ShOK sh E) (hs : inI s) (hp : inI p) : Call l m_Top_silentFrom false 68 68 [aR 0, aI s, aI p] w (jC w (silA D n s p) D n mi hi Di ni mj sh E) := by
  have hT := TS.rf hW
  obtain ⟨hO, hK, hC, ⟨Dt, nt, mt, hCt⟩, hCi, hS34, hSh, ⟨po, hPo⟩, ⟨di, hDi⟩⟩ := hW
  obtain ⟨hn, hD, hs0, hs1, hs2, hs3⟩ := id hB
  refine Call.of (L := [some (aR 0), some (aI s), some (aI p), none]) rfl (Nat.le_of_ble_eq_true rfl) rfl (fun G ad => ?_)
  refine j_iload_n (pc' := 1) (z := s) dX11_silentFrom_0 rfl rfl ?_
  refine j_callS (pc' := 4) (as := [aI s]) (rest := []) dX11_silentFrom_1 rfl s_Top_123 (c_isSeat (by omega)) rfl rfl rfl (jdet (st' := [aB (0 ≤ s ∧ s ≤ 3)]) rfl ?_)
  refine j_ifb_eq (tgt := 14) (pc' := 7) dX11_silentFrom_4 (by decide) rfl (fun h4 => ?_) (fun h4 => ?_)
  · refine j_iconst (pc' := 15) dX11_silentFrom_14 rfl ?_
    exact j_iret dX11_silentFrom_15 rfl (jC_of (by unfold silA; (repeat' split) <;> first | rfl | omega) hT)
  · refine j_iload_n (pc' := 8) (z := p) dX11_silentFrom_7 rfl rfl ?_
    refine j_callS (pc' := 11) (as := [aI p]) (rest := []) dX11_silentFrom_8 rfl s_Top_164 (c_isPace (by omega)) rfl rfl rfl (jdet (st' := [aB (0 ≤ p ∧ p ≤ 99)]) rfl ?_)
    refine j_ifb_ne (tgt := 16) (pc' := 14) dX11_silentFrom_11 (by decide) rfl (fun h11 => ?_) (fun h11 => ?_)
    · refine j_iload_n (pc' := 17) (z := p) dX11_silentFrom_16 rfl rfl ?_
      refine j_istore_n (pc' := 18) (L' := [some (aR 0), some (aI s), some (aI p), some (aI p)]) dX11_silentFrom_17 rfl (by decide) rfl ?_
      have lp18 : ∀ (k9 : Nat) (i : Int), (p ≤ i ∧ i ≤ 100) → (silA D n s p = fstI (fun x => decide (hrd D n s x = 0)) i (100 - i).toNat) → ((100 - i).toNat) = k9 → J l m_Top_silentFrom ad G [] false (jZ ad G false 68 m_Top_silentFrom.2.2.2.2.cells m_Top_silentFrom.2.2.2.2.slots (jC w (silA D n s p) D n mi hi Di ni mj sh E)) 68 0 0 18 [some (aR 0), some (aI s), some (aI p), some (aI i)] [] w := by
        intro k9
        induction k9 using Nat.strongRecOn with
        | _ k9 ih18 =>
          intro i hi hv hk18
          refine j_iload_n (pc' := 19) (z := i) dX11_silentFrom_18 rfl rfl ?_
          refine j_bipush (pc' := 21) dX11_silentFrom_19 rfl (by decide) ?_
          refine j_icmp_ge (tgt := 44) (pc' := 24) dX11_silentFrom_21 (by decide) rfl (by omega) (by omega) (fun h21 => ?_) (fun h21 => ?_)
          · refine j_bipush (pc' := 46) dX11_silentFrom_44 rfl (by decide) ?_
            exact j_iret dX11_silentFrom_46 rfl (jC_of (by rw [hv, fstI_z (by omega)]) hT)
          · refine j_aload_n (pc' := 25) (z := 0) dX11_silentFrom_24 rfl rfl ?_
            refine j_get (pc' := 28) (v := aR 10) dX11_silentFrom_25 rfl f_Top_42 (by omega) hO rfl ?_
            refine j_iload_n (pc' := 29) (z := s) dX11_silentFrom_28 rfl rfl ?_
            refine j_iload_n (pc' := 30) (z := i) dX11_silentFrom_29 rfl rfl ?_
            refine j_callV (pc' := 33) (as := [aI s, aI i]) (rest := []) dX11_silentFrom_30 rfl s_Top_167 (c_Car_heardAt hC hB hK (by omega) (by omega) (by omega)) (by omega) hC.1 rfl rfl rfl rfl (jdet (st' := [aI (hrd D n s i)]) rfl ?_)
            have hhb := hrd_bd (seat := s) (pace := i) hB
            refine j_if_ne (tgt := 38) (pc' := 36) dX11_silentFrom_33 (by decide) rfl (by omega) (fun h33 => ?_) (fun h33 => ?_)
            · refine j_iinc (pc' := 41) (z := i) (L' := [some (aR 0), some (aI s), some (aI p), some (aI (i + 1))]) dX11_silentFrom_38 rfl (by decide) rfl rfl rfl ?_
              refine j_goto (pc' := 18) dX11_silentFrom_41 (by decide) ?_
              exact ih18 _ (by omega) (i + 1) (by omega) (by rw [hv, fstI_n (by omega) (by rw [decide_eq_true_iff]; omega)]) rfl
            · refine j_iload_n (pc' := 37) (z := i) dX11_silentFrom_36 rfl rfl ?_
              exact j_iret dX11_silentFrom_37 rfl (jC_of (by rw [hv, fstI_y (by omega) (decide_eq_true h33)]) hT)
      exact lp18 _ p (by omega) (by unfold silA; rw [if_pos (by omega)]) rfl
    · refine j_iconst (pc' := 15) dX11_silentFrom_14 rfl ?_
      exact j_iret dX11_silentFrom_15 rfl (jC_of (by unfold silA; (repeat' split) <;> first | rfl | omega) hT)
set_option maxRecDepth 100000 in
set_option maxHeartbeats 4000000 in
theorem c_Top_bestSeat {l : Launch} {w : AW} {D Di : Int → Int → Int} {n mi hi ni mj : Int} {sh E : Int → Int → Int}  (hW : Comp w D n mi hi Di ni mj sh E) (hB : CarOK D n mi) (hI : CarOK Di ni mj) (hhi : hi = 0 ∨ hi = 1) (hsh : ShOK sh E)  : Call l m_Top_bestSeat false 68 68 [aR 0] w (jC w (bestA D n) D n mi hi Di ni mj sh E) := by
  have hT := TS.rf hW
  obtain ⟨hO, hK, hC, ⟨Dt, nt, mt, hCt⟩, hCi, hS34, hSh, ⟨po, hPo⟩, ⟨di, hDi⟩⟩ := hW
  obtain ⟨hn, hD, hs0, hs1, hs2, hs3⟩ := id hB
  refine Call.of (L := [some (aR 0), none, none]) rfl (Nat.le_of_ble_eq_true rfl) rfl (fun G ad => ?_)
  refine j_iconst (pc' := 1) dX11_bestSeat_0 rfl ?_
  refine j_istore_n (pc' := 2) (L' := [some (aR 0), some (aI 0), none]) dX11_bestSeat_1 rfl (by decide) rfl ?_
  refine j_iconst (pc' := 3) dX11_bestSeat_2 rfl ?_
  refine j_istore_n (pc' := 4) (L' := [some (aR 0), some (aI 0), some (aI 1)]) dX11_bestSeat_3 rfl (by decide) rfl ?_
  have lp4 : ∀ (k9 : Nat) (b : Int) (i : Int), (1 ≤ i ∧ i ≤ 4) → (b = foldI (bestH D n) 0 (i - 1)) → (0 ≤ b ∧ b ≤ 3) → ((4 - i).toNat) = k9 → J l m_Top_bestSeat ad G [] false (jZ ad G false 68 m_Top_bestSeat.2.2.2.2.cells m_Top_bestSeat.2.2.2.2.slots (jC w (bestA D n) D n mi hi Di ni mj sh E)) 68 0 0 4 [some (aR 0), some (aI b), some (aI i)] [] w := by
    intro k9
    induction k9 using Nat.strongRecOn with
    | _ k9 ih4 =>
      intro b i hi hv hvb hk4
      refine j_iload_n (pc' := 5) (z := i) dX11_bestSeat_4 rfl rfl ?_
      refine j_iconst (pc' := 6) dX11_bestSeat_5 rfl ?_
      refine j_icmp_ge (tgt := 36) (pc' := 9) dX11_bestSeat_6 (by decide) rfl (by omega) (by omega) (fun h6 => ?_) (fun h6 => ?_)
      · refine j_iload_n (pc' := 37) (z := b) dX11_bestSeat_36 rfl rfl ?_
        exact j_iret dX11_bestSeat_37 rfl (jC_of (by rw [hv, show i - 1 = 3 by omega]; rfl) hT)
      · refine j_aload_n (pc' := 10) (z := 0) dX11_bestSeat_9 rfl rfl ?_
        refine j_get (pc' := 13) (v := aR 10) dX11_bestSeat_10 rfl f_Top_42 (by omega) hO rfl ?_
        refine j_iload_n (pc' := 14) (z := i) dX11_bestSeat_13 rfl rfl ?_
        refine j_callV (pc' := 17) (as := [aI i]) (rest := []) dX11_bestSeat_14 rfl s_Top_158 (c_Car_heardNow hC hB hK (by omega) (by omega)) (by omega) hC.1 rfl rfl rfl rfl (jdet (st' := [aI (hrd D n i (D 6 0))]) rfl ?_)
        refine j_aload_n (pc' := 18) (z := 0) dX11_bestSeat_17 rfl rfl ?_
        refine j_get (pc' := 21) (v := aR 10) dX11_bestSeat_18 rfl f_Top_42 (by omega) hO rfl ?_
        refine j_iload_n (pc' := 22) (z := b) dX11_bestSeat_21 rfl rfl ?_
        refine j_callV (pc' := 25) (as := [aI b]) (rest := [aI (hrd D n i (D 6 0))]) dX11_bestSeat_22 rfl s_Top_158 (c_Car_heardNow hC hB hK (by omega) (by omega)) (by omega) hC.1 rfl rfl rfl rfl (jdet (st' := [aI (hrd D n b (D 6 0)), aI (hrd D n i (D 6 0))]) rfl ?_)
        have hh1 := hrd_bd (seat := i) (pace := D 6 0) hB
        have hh2 := hrd_bd (seat := b) (pace := D 6 0) hB
        refine j_icmp_le (tgt := 30) (pc' := 28) dX11_bestSeat_25 (by decide) rfl (by omega) (by omega) (fun h25 => ?_) (fun h25 => ?_)
        · refine j_iinc (pc' := 33) (z := i) (L' := [some (aR 0), some (aI b), some (aI (i + 1))]) dX11_bestSeat_30 rfl (by decide) rfl rfl rfl ?_
          refine j_goto (pc' := 4) dX11_bestSeat_33 (by decide) ?_
          exact ih4 _ (by omega) b (i + 1) (by omega) (by rw [show i + 1 - 1 = (i - 1) + 1 by omega, foldI_s (by omega), ← hv]; unfold bestH; rw [show i - 1 + 1 = i by omega]; first | rw [if_pos (by omega)] | rw [if_neg (by omega)]) (by omega) rfl
        · refine j_iload_n (pc' := 29) (z := i) dX11_bestSeat_28 rfl rfl ?_
          refine j_istore_n (pc' := 30) (L' := [some (aR 0), some (aI i), some (aI i)]) dX11_bestSeat_29 rfl (by decide) rfl ?_
          refine j_iinc (pc' := 33) (z := i) (L' := [some (aR 0), some (aI i), some (aI (i + 1))]) dX11_bestSeat_30 rfl (by decide) rfl rfl rfl ?_
          refine j_goto (pc' := 4) dX11_bestSeat_33 (by decide) ?_
          exact ih4 _ (by omega) i (i + 1) (by omega) (by rw [show i + 1 - 1 = (i - 1) + 1 by omega, foldI_s (by omega), ← hv]; unfold bestH; rw [show i - 1 + 1 = i by omega]; first | rw [if_pos (by omega)] | rw [if_neg (by omega)]) (by omega) rfl
  exact lp4 _ 0 1 (by omega) (by rfl) (by omega) rfl
