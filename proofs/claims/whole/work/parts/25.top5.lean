def twoH (D : Int → Int → Int) (n : Int) (F : Int → Int) (sz p : Int) (q : Int) (x : Int × Int) : Int × Int := if andI (orI (2 ^ p.toNat) (2 ^ q.toNat)) (susS D n F sz) = 0 ∧ toldB D n F sz (orI (2 ^ p.toNat) (2 ^ q.toNat)) = true then (x.1 + 1, (if x.2 = -4 then 10 * p + q else x.2)) else x
/-- the inner loop: q from p + 1 on, k of them -/
def twoI (D : Int → Int → Int) (n : Int) (F : Int → Int) (sz p k : Int) (x : Int × Int) : Int × Int := foldI (fun j x => twoH D n F sz p (p + 1 + j) x) x k
def twoF (D : Int → Int → Int) (n : Int) (F : Int → Int) (sz k : Int) : Int × Int := foldI (fun p x => twoI D n F sz p (n - (p + 1)) x) (0, -4) k
def twoA (D : Int → Int → Int) (n : Int) (sh E : Int → Int → Int) (d what : Int) : Int := if 0 ≤ what ∧ what ≤ 1 then (if pairsR sh E d = 0 then (if what = 0 then (twoF D n (E d) (sh 4 d) n).1 else (twoF D n (E d) (sh 4 d) n).2) else pairsR sh E d) else -1
def tnW (D : Int → Int → Int) (n set pace : Int) : Int := min (wts D n (andI set (ratS D n pace))) (wts D n set - wts D n (andI set (ratS D n pace)))
def tnH (D : Int → Int → Int) (n set pace : Int) (x : Int × Int) : Int × Int := if x.2 < tnW D n set pace then (pace, tnW D n set pace) else x
def tnF (D : Int → Int → Int) (n set k : Int) : Int × Int := foldI (tnH D n set) (0, -1) k
def tryA (D : Int → Int → Int) (n : Int) (sh E : Int → Int → Int) (d : Int) : Int := if pairsR sh E d = 0 then (if pop (susS D n (E d) (sh 4 d)) < 2 then -4 else (tnF D n (susS D n (E d) (sh 4 d)) 100).1) else pairsR sh E d
theorem wts_bd {D : Int → Int → Int} {n mi set : Int} (hB : CarOK D n mi) : 0 ≤ wts D n set ∧ wts D n set ≤ 63 := by
  obtain ⟨hn, hD, -⟩ := hB
  have h := sumI_bd (f := fun p => if bt set p = 1 then D 3 p else 0) (n := n) (lo := 0) (hi := 9) hn.1 (fun k h1 h2 => by
    have := (hD k h1 (by omega)).2.2.2.1
    split <;> omega)
  unfold wts
  omega
theorem or2_bd {p q : Int} (hp : 0 ≤ p ∧ p < q) (hq : q ≤ 6) : 0 ≤ orI (2 ^ p.toNat) (2 ^ q.toNat) ∧ orI (2 ^ p.toNat) (2 ^ q.toNat) ≤ 127 := by
  have h1 := two_pos p.toNat
  have hlt : (2 : Int) ^ p.toNat < 2 ^ q.toNat := by
    have e1 : (2 : Int) ^ p.toNat = ((2 ^ p.toNat : Nat) : Int) := by simp
    have e2 : (2 : Int) ^ q.toNat = ((2 ^ q.toNat : Nat) : Int) := by simp
    rw [e1, e2]
    have := Nat.pow_lt_pow_right (a := 2) (by omega) (show p.toNat < q.toNat by omega)
    omega
  have h3 := pow7 (n := q + 1) (by omega)
  rw [show (q + 1).toNat = q.toNat + 1 by omega, Int.pow_succ] at h3
  rw [orI_pow (by omega) ⟨by omega, hlt⟩]
  omega
set_option maxRecDepth 100000 in
set_option maxHeartbeats 4000000 in
theorem c_Top_which {l : Launch} {w : AW} {D Di : Int → Int → Int} {n mi hi ni mj : Int} {sh E : Int → Int → Int} {d x : Int} (hW : Comp w D n mi hi Di ni mj sh E) (hB : CarOK D n mi) (hI : CarOK Di ni mj) (hhi : hi = 0 ∨ hi = 1) (hsh : ShOK sh E) (hd : inI d) (hx : inI x) : Call l m_Top_which false 68 68 [aR 0, aI d, aI x] w (jC w (whichA D n sh E d x) D n mi hi Di ni mj sh E) := by
  have hT := TS.rf hW
  obtain ⟨hO, hK, hC, ⟨Dt, nt, mt, hCt⟩, hCi, hS34, hSh, ⟨po, hPo⟩, ⟨di, hDi⟩⟩ := hW
  obtain ⟨hn, hD, hs0, hs1, hs2, hs3⟩ := id hB
  refine Call.of (L := [some (aR 0), some (aI d), some (aI x), none, none]) rfl (Nat.le_of_ble_eq_true rfl) rfl (fun G ad => ?_)
  refine j_iload_n (pc' := 1) (z := x) dX11_which_0 rfl rfl ?_
  refine j_callS (pc' := 4) (as := [aI x]) (rest := []) dX11_which_1 rfl s_Top_173 (c_isEither (by omega)) rfl rfl rfl (jdet (st' := [aB (0 ≤ x ∧ x ≤ 1)]) rfl ?_)
  refine j_ifb_eq (tgt := 15) (pc' := 7) dX11_which_4 (by decide) rfl (fun h4 => ?_) (fun h4 => ?_)
  · refine j_iconst (pc' := 16) dX11_which_15 rfl ?_
    refine j_istore_n (pc' := 17) (L' := [some (aR 0), some (aI d), some (aI x), some (aI (-1)), none]) dX11_which_16 rfl (by decide) rfl ?_
    refine j_iload_n (pc' := 18) (z := (-1)) dX11_which_17 rfl rfl ?_
    have hrb := pairsR_bd (sh := sh) (E := E) (d := d)
    refine j_if_eq (tgt := 23) (pc' := 21) dX11_which_18 (by decide) rfl (by omega) (fun h18 => ?_) (fun h18 => ?_)
    · exact absurd h18 (by omega)
    · refine j_iload_n (pc' := 22) (z := (-1)) dX11_which_21 rfl rfl ?_
      exact j_iret dX11_which_22 rfl (jC_of (by unfold whichA; (repeat' split) <;> first | rfl | omega) hT)
  · refine j_aload_n (pc' := 8) (z := 0) dX11_which_7 rfl rfl ?_
    refine j_iload_n (pc' := 9) (z := d) dX11_which_8 rfl rfl ?_
    refine j_callV (pc' := 12) (as := [aI d]) (rest := []) dX11_which_9 rfl s_Top_192 (c_Top_pairsRefusal hT.1 hsh (by omega)) (by omega) hO rfl rfl rfl rfl (jdet (st' := [aI (pairsR sh E d)]) rfl ?_)
    refine j_goto (pc' := 16) dX11_which_12 (by decide) ?_
    refine j_istore_n (pc' := 17) (L' := [some (aR 0), some (aI d), some (aI x), some (aI (pairsR sh E d)), none]) dX11_which_16 rfl (by decide) rfl ?_
    refine j_iload_n (pc' := 18) (z := (pairsR sh E d)) dX11_which_17 rfl rfl ?_
    have hrb := pairsR_bd (sh := sh) (E := E) (d := d)
    refine j_if_eq (tgt := 23) (pc' := 21) dX11_which_18 (by decide) rfl (by omega) (fun h18 => ?_) (fun h18 => ?_)
    · obtain ⟨⟨hd7, hct⟩, hpr⟩ := pairsR_0 h18
      obtain ⟨q1, q2, q3, q4, q5, q6⟩ := id (hsh d hd7)
      have hsb := bset_127 (P := susP D n (E d) (sh 4 d)) (n := n) (by omega)
      have hsb : 0 ≤ susS D n (E d) (sh 4 d) ∧ susS D n (E d) (sh 4 d) ≤ 127 := hsb
      refine j_aload_n (pc' := 24) (z := 0) dX11_which_23 rfl rfl ?_
      refine j_aload_n (pc' := 25) (z := 0) dX11_which_24 rfl rfl ?_
      refine j_get (pc' := 28) (v := aR 34) dX11_which_25 rfl f_Top_58 (by omega) hO rfl ?_
      refine j_iload_n (pc' := 29) (z := d) dX11_which_28 rfl rfl ?_
      refine j_aald (pc' := 30) (r := (35 + 2 * (d).toNat)) (Cn := "RattleAtFifty$Shelf") dX11_which_29 rfl (by omega) hS34 rfl (by omega) (by decide) rfl ?_
      refine j_callV (pc' := 33) (as := [aR (35 + 2 * (d).toNat)]) (rest := []) dX11_which_30 rfl s_Top_195 (c_Top_suspectsBy hT.1 hB hsh (by omega) hpr) (by omega) hO rfl rfl rfl rfl (jdet (st' := [aI (susS D n (E d) (sh 4 d))]) rfl ?_)
      refine j_istore (pc' := 35) (L' := [some (aR 0), some (aI d), some (aI x), some (aI (pairsR sh E d)), some (aI (susS D n (E d) (sh 4 d)))]) dX11_which_33 rfl (by decide) rfl ?_
      refine j_iload_n (pc' := 36) (z := x) dX11_which_35 rfl rfl ?_
      refine j_if_ne (tgt := 44) (pc' := 39) dX11_which_36 (by decide) rfl (by omega) (fun h36 => ?_) (fun h36 => ?_)
      · refine j_iload (pc' := 46) (z := (susS D n (E d) (sh 4 d))) dX11_which_44 rfl rfl ?_
        refine j_callS (pc' := 49) (as := [aI (susS D n (E d) (sh 4 d))]) (rest := []) dX11_which_46 rfl s_Top_198 (c_bitCount (by omega)) rfl rfl rfl (jdet (st' := [aI (pop (susS D n (E d) (sh 4 d)))]) rfl ?_)
        exact j_iret dX11_which_49 rfl (jC_of (by unfold whichA; rw [if_pos (by omega), if_pos h18]; (repeat' split) <;> first | rfl | omega) hT)
      · refine j_iload (pc' := 41) (z := (susS D n (E d) (sh 4 d))) dX11_which_39 rfl rfl ?_
        refine j_goto (pc' := 49) dX11_which_41 (by decide) ?_
        exact j_iret dX11_which_49 rfl (jC_of (by unfold whichA; rw [if_pos (by omega), if_pos h18]; (repeat' split) <;> first | rfl | omega) hT)
    · refine j_iload_n (pc' := 22) (z := (pairsR sh E d)) dX11_which_21 rfl rfl ?_
      exact j_iret dX11_which_22 rfl (jC_of (by unfold whichA; (repeat' split) <;> first | rfl | omega) hT)
set_option maxRecDepth 100000 in
set_option maxHeartbeats 4000000 in
theorem c_Top_two {l : Launch} {w : AW} {D Di : Int → Int → Int} {n mi hi ni mj : Int} {sh E : Int → Int → Int} {d x : Int} (hW : Comp w D n mi hi Di ni mj sh E) (hB : CarOK D n mi) (hI : CarOK Di ni mj) (hhi : hi = 0 ∨ hi = 1) (hsh : ShOK sh E) (hd : inI d) (hx : inI x) : Call l m_Top_two false 68 68 [aR 0, aI d, aI x] w (jC w (twoA D n sh E d x) D n mi hi Di ni mj sh E) := by
  have hT := TS.rf hW
  obtain ⟨hO, hK, hC, ⟨Dt, nt, mt, hCt⟩, hCi, hS34, hSh, ⟨po, hPo⟩, ⟨di, hDi⟩⟩ := hW
  obtain ⟨hn, hD, hs0, hs1, hs2, hs3⟩ := id hB
  refine Call.of (L := [some (aR 0), some (aI d), some (aI x), none, none, none, none, none, none, none]) rfl (Nat.le_of_ble_eq_true rfl) rfl (fun G ad => ?_)
  refine j_iload_n (pc' := 1) (z := x) dX11_two_0 rfl rfl ?_
  refine j_callS (pc' := 4) (as := [aI x]) (rest := []) dX11_two_1 rfl s_Top_173 (c_isEither (by omega)) rfl rfl rfl (jdet (st' := [aB (0 ≤ x ∧ x ≤ 1)]) rfl ?_)
  refine j_ifb_eq (tgt := 15) (pc' := 7) dX11_two_4 (by decide) rfl (fun h4 => ?_) (fun h4 => ?_)
  · refine j_iconst (pc' := 16) dX11_two_15 rfl ?_
    refine j_istore_n (pc' := 17) (L' := [some (aR 0), some (aI d), some (aI x), some (aI (-1)), none, none, none, none, none, none]) dX11_two_16 rfl (by decide) rfl ?_
    refine j_iload_n (pc' := 18) (z := (-1)) dX11_two_17 rfl rfl ?_
    have hrb := pairsR_bd (sh := sh) (E := E) (d := d)
    refine j_if_eq (tgt := 23) (pc' := 21) dX11_two_18 (by decide) rfl (by omega) (fun h18 => ?_) (fun h18 => ?_)
    · exact absurd h18 (by omega)
    · refine j_iload_n (pc' := 22) (z := (-1)) dX11_two_21 rfl rfl ?_
      exact j_iret dX11_two_22 rfl (jC_of (by unfold twoA; (repeat' split) <;> first | rfl | omega) hT)
  · refine j_aload_n (pc' := 8) (z := 0) dX11_two_7 rfl rfl ?_
    refine j_iload_n (pc' := 9) (z := d) dX11_two_8 rfl rfl ?_
    refine j_callV (pc' := 12) (as := [aI d]) (rest := []) dX11_two_9 rfl s_Top_192 (c_Top_pairsRefusal hT.1 hsh (by omega)) (by omega) hO rfl rfl rfl rfl (jdet (st' := [aI (pairsR sh E d)]) rfl ?_)
    refine j_goto (pc' := 16) dX11_two_12 (by decide) ?_
    refine j_istore_n (pc' := 17) (L' := [some (aR 0), some (aI d), some (aI x), some (aI (pairsR sh E d)), none, none, none, none, none, none]) dX11_two_16 rfl (by decide) rfl ?_
    refine j_iload_n (pc' := 18) (z := (pairsR sh E d)) dX11_two_17 rfl rfl ?_
    have hrb := pairsR_bd (sh := sh) (E := E) (d := d)
    refine j_if_eq (tgt := 23) (pc' := 21) dX11_two_18 (by decide) rfl (by omega) (fun h18 => ?_) (fun h18 => ?_)
    · obtain ⟨⟨hd7, hct⟩, hpr⟩ := pairsR_0 h18
      obtain ⟨q1, q2, q3, q4, q5, q6⟩ := id (hsh d hd7)
      have hsb := bset_127 (P := susP D n (E d) (sh 4 d)) (n := n) (by omega)
      have hsb : 0 ≤ susS D n (E d) (sh 4 d) ∧ susS D n (E d) (sh 4 d) ≤ 127 := hsb
      refine j_aload_n (pc' := 24) (z := 0) dX11_two_23 rfl rfl ?_
      refine j_aload_n (pc' := 25) (z := 0) dX11_two_24 rfl rfl ?_
      refine j_get (pc' := 28) (v := aR 34) dX11_two_25 rfl f_Top_58 (by omega) hO rfl ?_
      refine j_iload_n (pc' := 29) (z := d) dX11_two_28 rfl rfl ?_
      refine j_aald (pc' := 30) (r := (35 + 2 * (d).toNat)) (Cn := "RattleAtFifty$Shelf") dX11_two_29 rfl (by omega) hS34 rfl (by omega) (by decide) rfl ?_
      refine j_callV (pc' := 33) (as := [aR (35 + 2 * (d).toNat)]) (rest := []) dX11_two_30 rfl s_Top_195 (c_Top_suspectsBy hT.1 hB hsh (by omega) hpr) (by omega) hO rfl rfl rfl rfl (jdet (st' := [aI (susS D n (E d) (sh 4 d))]) rfl ?_)
      refine j_istore (pc' := 35) (L' := [some (aR 0), some (aI d), some (aI x), some (aI (pairsR sh E d)), some (aI (susS D n (E d) (sh 4 d))), none, none, none, none, none]) dX11_two_33 rfl (by decide) rfl ?_
      refine j_iconst (pc' := 36) dX11_two_35 rfl ?_
      refine j_istore (pc' := 38) (L' := [some (aR 0), some (aI d), some (aI x), some (aI (pairsR sh E d)), some (aI (susS D n (E d) (sh 4 d))), some (aI 0), none, none, none, none]) dX11_two_36 rfl (by decide) rfl ?_
      refine j_bipush (pc' := 40) dX11_two_38 rfl (by decide) ?_
      refine j_istore (pc' := 42) (L' := [some (aR 0), some (aI d), some (aI x), some (aI (pairsR sh E d)), some (aI (susS D n (E d) (sh 4 d))), some (aI 0), some (aI (-4)), none, none, none]) dX11_two_40 rfl (by decide) rfl ?_
      refine j_iconst (pc' := 43) dX11_two_42 rfl ?_
      refine j_istore (pc' := 45) (L' := [some (aR 0), some (aI d), some (aI x), some (aI (pairsR sh E d)), some (aI (susS D n (E d) (sh 4 d))), some (aI 0), some (aI (-4)), some (aI 0), none, none]) dX11_two_43 rfl (by decide) rfl ?_
      have lp45 : ∀ (k9 : Nat) (v : Int) (f : Int) (a : Int), (0 ≤ a ∧ a ≤ n) → ((v, f) = twoF D n (E d) (sh 4 d) a) → ((0 ≤ v ∧ v ≤ 10 * a) ∧ -4 ≤ f ∧ f ≤ 100) → ((n - a).toNat) = k9 → J l m_Top_two ad G [] false (jZ ad G false 68 m_Top_two.2.2.2.2.cells m_Top_two.2.2.2.2.slots (jC w (twoA D n sh E d x) D n mi hi Di ni mj sh E)) 68 0 0 45 [some (aR 0), some (aI d), some (aI x), some (aI (pairsR sh E d)), some (aI (susS D n (E d) (sh 4 d))), some (aI v), some (aI f), some (aI a), none, none] [] w := by
        intro k9
        induction k9 using Nat.strongRecOn with
        | _ k9 ih45 =>
          intro v f a hi9 hv hvb hk45
          refine j_iload (pc' := 47) (z := a) dX11_two_45 rfl rfl ?_
          refine j_aload_n (pc' := 48) (z := 0) dX11_two_47 rfl rfl ?_
          refine j_get (pc' := 51) (v := aR 10) dX11_two_48 rfl f_Top_42 (by omega) hO rfl ?_
          refine j_get (pc' := 54) (v := aI n) dX11_two_51 rfl f_Top_203 (by omega) hC.1 rfl ?_
          refine j_icmp_ge (tgt := 149) (pc' := 57) dX11_two_54 (by decide) rfl (by omega) (by omega) (fun h54 => ?_) (fun h54 => ?_)
          · refine j_iload_n (pc' := 150) (z := x) dX11_two_149 rfl rfl ?_
            refine j_if_ne (tgt := 158) (pc' := 153) dX11_two_150 (by decide) rfl (by omega) (fun h150 => ?_) (fun h150 => ?_)
            · refine j_iload (pc' := 160) (z := f) dX11_two_158 rfl rfl ?_
              exact j_iret dX11_two_160 rfl (jC_of (by have hz : twoF D n (E d) (sh 4 d) n = (v, f) := (by rw [hv, show a = n by omega]); unfold twoA; rw [if_pos (by omega), if_pos h18, hz]; dsimp only; (repeat' split) <;> first | rfl | omega) hT)
            · refine j_iload (pc' := 155) (z := v) dX11_two_153 rfl rfl ?_
              refine j_goto (pc' := 160) dX11_two_155 (by decide) ?_
              exact j_iret dX11_two_160 rfl (jC_of (by have hz : twoF D n (E d) (sh 4 d) n = (v, f) := (by rw [hv, show a = n by omega]); unfold twoA; rw [if_pos (by omega), if_pos h18, hz]; dsimp only; (repeat' split) <;> first | rfl | omega) hT)
          · refine j_iload (pc' := 59) (z := a) dX11_two_57 rfl rfl ?_
            refine j_iconst (pc' := 60) dX11_two_59 rfl ?_
            refine j_iadd (pc' := 61) dX11_two_60 rfl ?_
            refine j_istore (pc' := 63) (L' := [some (aR 0), some (aI d), some (aI x), some (aI (pairsR sh E d)), some (aI (susS D n (E d) (sh 4 d))), some (aI v), some (aI f), some (aI a), some (aI (a + 1)), none]) dX11_two_61 rfl (by decide) rfl ?_
            have lp63 : ∀ (k9 : Nat) (v2 : Int) (f2 : Int) (b : Int), (a + 1 ≤ b ∧ b ≤ n ∨ b = a + 1) → ((v2, f2) = twoI D n (E d) (sh 4 d) a (b - (a + 1)) (v, f)) → ((v ≤ v2 ∧ v2 ≤ v + (b - (a + 1))) ∧ -4 ≤ f2 ∧ f2 ≤ 100) → ((n - b).toNat) = k9 → J l m_Top_two ad G [] false (jZ ad G false 68 m_Top_two.2.2.2.2.cells m_Top_two.2.2.2.2.slots (jC w (twoA D n sh E d x) D n mi hi Di ni mj sh E)) 68 0 0 63 [some (aR 0), some (aI d), some (aI x), some (aI (pairsR sh E d)), some (aI (susS D n (E d) (sh 4 d))), some (aI v2), some (aI f2), some (aI a), some (aI b), none] [] w := by
              intro k9
              induction k9 using Nat.strongRecOn with
              | _ k9 ih63 =>
                intro v2 f2 b hb9 hv2 hvb2 hk63
                refine j_iload (pc' := 65) (z := b) dX11_two_63 rfl rfl ?_
                refine j_aload_n (pc' := 66) (z := 0) dX11_two_65 rfl rfl ?_
                refine j_get (pc' := 69) (v := aR 10) dX11_two_66 rfl f_Top_42 (by omega) hO rfl ?_
                refine j_get (pc' := 72) (v := aI n) dX11_two_69 rfl f_Top_203 (by omega) hC.1 rfl ?_
                refine j_icmp_ge (tgt := 143) (pc' := 75) dX11_two_72 (by decide) rfl (by omega) (by omega) (fun h72 => ?_) (fun h72 => ?_)
                · refine j_iinc (pc' := 146) (z := a) (L' := [some (aR 0), some (aI d), some (aI x), some (aI (pairsR sh E d)), some (aI (susS D n (E d) (sh 4 d))), some (aI v2), some (aI f2), some (aI (a + 1)), some (aI b), none]) dX11_two_143 rfl (by decide) rfl rfl rfl ?_
                  refine j_goto (pc' := 45) dX11_two_146 (by decide) ?_
                  refine j_forget 8 (L' := [some (aR 0), some (aI d), some (aI x), some (aI (pairsR sh E d)), some (aI (susS D n (E d) (sh 4 d))), some (aI v2), some (aI f2), some (aI (a + 1)), none, none]) rfl ?_
                  exact ih45 _ (by omega) v2 f2 (a + 1) (by omega) (by unfold twoF at hv ⊢; rw [foldI_s (by omega), ← hv]; rw [hv2, show b - (a + 1) = n - (a + 1) by omega]) (by omega) rfl
                · have hpa := pow7 (n := a) (by omega)
                  have hpb := pow7 (n := b) (by omega)
                  have hob := or2_bd (p := a) (q := b) (by omega) (by omega)
                  have hab := andI_bd (a := orI (2 ^ (Int.toNat a)) (2 ^ (Int.toNat b))) (b := susS D n (E d) (sh 4 d)) (by omega) (by omega)
                  refine j_iconst (pc' := 76) dX11_two_75 rfl ?_
                  refine j_iload (pc' := 78) (z := a) dX11_two_76 rfl rfl ?_
                  refine j_ishl1 (pc' := 79) dX11_two_78 rfl (by omega) ?_
                  refine j_iconst (pc' := 80) dX11_two_79 rfl ?_
                  refine j_iload (pc' := 82) (z := b) dX11_two_80 rfl rfl ?_
                  refine j_ishl1 (pc' := 83) dX11_two_82 rfl (by omega) ?_
                  refine j_ior (pc' := 84) (a := 2 ^ (Int.toNat a)) (b := 2 ^ (Int.toNat b)) dX11_two_83 rfl (by omega) (by omega) ?_
                  refine j_istore (pc' := 86) (L' := [some (aR 0), some (aI d), some (aI x), some (aI (pairsR sh E d)), some (aI (susS D n (E d) (sh 4 d))), some (aI v2), some (aI f2), some (aI a), some (aI b), some (aI (orI (2 ^ (Int.toNat a)) (2 ^ (Int.toNat b))))]) dX11_two_84 rfl (by decide) rfl ?_
                  refine j_iload (pc' := 88) (z := (orI (2 ^ (Int.toNat a)) (2 ^ (Int.toNat b)))) dX11_two_86 rfl rfl ?_
                  refine j_iload (pc' := 90) (z := (susS D n (E d) (sh 4 d))) dX11_two_88 rfl rfl ?_
                  refine j_iand (pc' := 91) (a := orI (2 ^ (Int.toNat a)) (2 ^ (Int.toNat b))) (b := susS D n (E d) (sh 4 d)) dX11_two_90 rfl (by omega) (by omega) ?_
                  refine j_if_ne (tgt := 137) (pc' := 94) dX11_two_91 (by decide) rfl (by omega) (fun h91 => ?_) (fun h91 => ?_)
                  · refine j_iinc (pc' := 140) (z := b) (L' := [some (aR 0), some (aI d), some (aI x), some (aI (pairsR sh E d)), some (aI (susS D n (E d) (sh 4 d))), some (aI v2), some (aI f2), some (aI a), some (aI (b + 1)), some (aI (orI (2 ^ (Int.toNat a)) (2 ^ (Int.toNat b))))]) dX11_two_137 rfl (by decide) rfl rfl rfl ?_
                    refine j_goto (pc' := 63) dX11_two_140 (by decide) ?_
                    refine j_forget 9 (L' := [some (aR 0), some (aI d), some (aI x), some (aI (pairsR sh E d)), some (aI (susS D n (E d) (sh 4 d))), some (aI v2), some (aI f2), some (aI a), some (aI (b + 1)), none]) rfl ?_
                    exact ih63 _ (by omega) v2 f2 (b + 1) (by omega) (by unfold twoI at hv2 ⊢; rw [show b + 1 - (a + 1) = (b - (a + 1)) + 1 by omega, foldI_s (by omega), ← hv2]; unfold twoH; rw [show a + 1 + (b - (a + 1)) = b by omega]; rw [if_neg (fun q9 => h91 q9.1)]) (by omega) rfl
                  · refine j_aload_n (pc' := 95) (z := 0) dX11_two_94 rfl rfl ?_
                    refine j_get (pc' := 98) (v := aR 10) dX11_two_95 rfl f_Top_42 (by omega) hO rfl ?_
                    refine j_aload_n (pc' := 99) (z := 0) dX11_two_98 rfl rfl ?_
                    refine j_get (pc' := 102) (v := aR 34) dX11_two_99 rfl f_Top_58 (by omega) hO rfl ?_
                    refine j_iload_n (pc' := 103) (z := d) dX11_two_102 rfl rfl ?_
                    refine j_aald (pc' := 104) (r := (35 + 2 * (d).toNat)) (Cn := "RattleAtFifty$Shelf") dX11_two_103 rfl (by omega) hS34 rfl (by omega) (by decide) rfl ?_
                    refine j_iload (pc' := 106) (z := (orI (2 ^ (Int.toNat a)) (2 ^ (Int.toNat b)))) dX11_two_104 rfl rfl ?_
                    refine j_callV (pc' := 109) (as := [aR (35 + 2 * (d).toNat), aI (orI (2 ^ (Int.toNat a)) (2 ^ (Int.toNat b)))]) (rest := []) dX11_two_106 rfl s_Top_206 (c_Car_doesJust hC hB hK (by omega) (hSh d (by omega)) (hsh d (by omega)) (by omega) (by omega) hpr) (by omega) hC.1 rfl rfl rfl rfl (jdet (st' := [aB (toldB D n (E d) (sh 4 d) (orI (2 ^ (Int.toNat a)) (2 ^ (Int.toNat b))) = true)]) rfl ?_)
                    refine j_ifb_eq (tgt := 137) (pc' := 112) dX11_two_109 (by decide) rfl (fun h109 => ?_) (fun h109 => ?_)
                    · refine j_iinc (pc' := 140) (z := b) (L' := [some (aR 0), some (aI d), some (aI x), some (aI (pairsR sh E d)), some (aI (susS D n (E d) (sh 4 d))), some (aI v2), some (aI f2), some (aI a), some (aI (b + 1)), some (aI (orI (2 ^ (Int.toNat a)) (2 ^ (Int.toNat b))))]) dX11_two_137 rfl (by decide) rfl rfl rfl ?_
                      refine j_goto (pc' := 63) dX11_two_140 (by decide) ?_
                      refine j_forget 9 (L' := [some (aR 0), some (aI d), some (aI x), some (aI (pairsR sh E d)), some (aI (susS D n (E d) (sh 4 d))), some (aI v2), some (aI f2), some (aI a), some (aI (b + 1)), none]) rfl ?_
                      exact ih63 _ (by omega) v2 f2 (b + 1) (by omega) (by unfold twoI at hv2 ⊢; rw [show b + 1 - (a + 1) = (b - (a + 1)) + 1 by omega, foldI_s (by omega), ← hv2]; unfold twoH; rw [show a + 1 + (b - (a + 1)) = b by omega]; rw [if_neg (fun q9 => h109 q9.2)]) (by omega) rfl
                    · refine j_iinc (pc' := 115) (z := v2) (L' := [some (aR 0), some (aI d), some (aI x), some (aI (pairsR sh E d)), some (aI (susS D n (E d) (sh 4 d))), some (aI (v2 + 1)), some (aI f2), some (aI a), some (aI b), some (aI (orI (2 ^ (Int.toNat a)) (2 ^ (Int.toNat b))))]) dX11_two_112 rfl (by decide) rfl rfl rfl ?_
                      refine j_iload (pc' := 117) (z := f2) dX11_two_115 rfl rfl ?_
                      refine j_bipush (pc' := 119) dX11_two_117 rfl (by decide) ?_
                      refine j_icmp_ne (tgt := 133) (pc' := 122) dX11_two_119 (by decide) rfl (by omega) (by omega) (fun h119 => ?_) (fun h119 => ?_)
                      · refine j_iload (pc' := 135) (z := f2) dX11_two_133 rfl rfl ?_
                        refine j_istore (pc' := 137) (L' := [some (aR 0), some (aI d), some (aI x), some (aI (pairsR sh E d)), some (aI (susS D n (E d) (sh 4 d))), some (aI (v2 + 1)), some (aI f2), some (aI a), some (aI b), some (aI (orI (2 ^ (Int.toNat a)) (2 ^ (Int.toNat b))))]) dX11_two_135 rfl (by decide) rfl ?_
                        refine j_iinc (pc' := 140) (z := b) (L' := [some (aR 0), some (aI d), some (aI x), some (aI (pairsR sh E d)), some (aI (susS D n (E d) (sh 4 d))), some (aI (v2 + 1)), some (aI f2), some (aI a), some (aI (b + 1)), some (aI (orI (2 ^ (Int.toNat a)) (2 ^ (Int.toNat b))))]) dX11_two_137 rfl (by decide) rfl rfl rfl ?_
                        refine j_goto (pc' := 63) dX11_two_140 (by decide) ?_
                        refine j_forget 9 (L' := [some (aR 0), some (aI d), some (aI x), some (aI (pairsR sh E d)), some (aI (susS D n (E d) (sh 4 d))), some (aI (v2 + 1)), some (aI f2), some (aI a), some (aI (b + 1)), none]) rfl ?_
                        exact ih63 _ (by omega) (v2 + 1) f2 (b + 1) (by omega) (by unfold twoI at hv2 ⊢; rw [show b + 1 - (a + 1) = (b - (a + 1)) + 1 by omega, foldI_s (by omega), ← hv2]; unfold twoH; rw [show a + 1 + (b - (a + 1)) = b by omega]; rw [if_pos ⟨h91, h109⟩]; dsimp only; first | rw [if_pos (by omega)] | rw [if_neg (by omega)]) (by omega) rfl
                      · refine j_bipush (pc' := 124) dX11_two_122 rfl (by decide) ?_
                        refine j_iload (pc' := 126) (z := a) dX11_two_124 rfl rfl ?_
                        refine j_imul (pc' := 127) dX11_two_126 rfl ?_
                        refine j_iload (pc' := 129) (z := b) dX11_two_127 rfl rfl ?_
                        refine j_iadd (pc' := 130) dX11_two_129 rfl ?_
                        refine j_goto (pc' := 135) dX11_two_130 (by decide) ?_
                        refine j_istore (pc' := 137) (L' := [some (aR 0), some (aI d), some (aI x), some (aI (pairsR sh E d)), some (aI (susS D n (E d) (sh 4 d))), some (aI (v2 + 1)), some (aI ((10 * a) + b)), some (aI a), some (aI b), some (aI (orI (2 ^ (Int.toNat a)) (2 ^ (Int.toNat b))))]) dX11_two_135 rfl (by decide) rfl ?_
                        refine j_iinc (pc' := 140) (z := b) (L' := [some (aR 0), some (aI d), some (aI x), some (aI (pairsR sh E d)), some (aI (susS D n (E d) (sh 4 d))), some (aI (v2 + 1)), some (aI ((10 * a) + b)), some (aI a), some (aI (b + 1)), some (aI (orI (2 ^ (Int.toNat a)) (2 ^ (Int.toNat b))))]) dX11_two_137 rfl (by decide) rfl rfl rfl ?_
                        refine j_goto (pc' := 63) dX11_two_140 (by decide) ?_
                        refine j_forget 9 (L' := [some (aR 0), some (aI d), some (aI x), some (aI (pairsR sh E d)), some (aI (susS D n (E d) (sh 4 d))), some (aI (v2 + 1)), some (aI ((10 * a) + b)), some (aI a), some (aI (b + 1)), none]) rfl ?_
                        exact ih63 _ (by omega) (v2 + 1) ((10 * a) + b) (b + 1) (by omega) (by unfold twoI at hv2 ⊢; rw [show b + 1 - (a + 1) = (b - (a + 1)) + 1 by omega, foldI_s (by omega), ← hv2]; unfold twoH; rw [show a + 1 + (b - (a + 1)) = b by omega]; rw [if_pos ⟨h91, h109⟩]; dsimp only; first | rw [if_pos (by omega)] | rw [if_neg (by omega)]) (by omega) rfl
            exact lp63 _ v f (a + 1) (by omega) (by rw [Int.sub_self]; rfl) (by omega) rfl
      exact lp45 _ 0 (-4) 0 (by omega) (by rfl) (by omega) rfl
    · refine j_iload_n (pc' := 22) (z := (pairsR sh E d)) dX11_two_21 rfl rfl ?_
      exact j_iret dX11_two_22 rfl (jC_of (by unfold twoA; (repeat' split) <;> first | rfl | omega) hT)
set_option maxRecDepth 100000 in
set_option maxHeartbeats 4000000 in
theorem c_Top_tryNext {l : Launch} {w : AW} {D Di : Int → Int → Int} {n mi hi ni mj : Int} {sh E : Int → Int → Int} {d : Int} (hW : Comp w D n mi hi Di ni mj sh E) (hB : CarOK D n mi) (hI : CarOK Di ni mj) (hhi : hi = 0 ∨ hi = 1) (hsh : ShOK sh E) (hd : inI d) : Call l m_Top_tryNext false 68 68 [aR 0, aI d] w (jC w (tryA D n sh E d) D n mi hi Di ni mj sh E) := by
  have hT := TS.rf hW
  obtain ⟨hO, hK, hC, ⟨Dt, nt, mt, hCt⟩, hCi, hS34, hSh, ⟨po, hPo⟩, ⟨di, hDi⟩⟩ := hW
  obtain ⟨hn, hD, hs0, hs1, hs2, hs3⟩ := id hB
  refine Call.of (L := [some (aR 0), some (aI d), none, none, none, none, none, none, none, none]) rfl (Nat.le_of_ble_eq_true rfl) rfl (fun G ad => ?_)
  refine j_aload_n (pc' := 1) (z := 0) dX11_tryNext_0 rfl rfl ?_
  refine j_iload_n (pc' := 2) (z := d) dX11_tryNext_1 rfl rfl ?_
  refine j_callV (pc' := 5) (as := [aI d]) (rest := []) dX11_tryNext_2 rfl s_Top_192 (c_Top_pairsRefusal hT.1 hsh (by omega)) (by omega) hO rfl rfl rfl rfl (jdet (st' := [aI (pairsR sh E d)]) rfl ?_)
  refine j_istore_n (pc' := 6) (L' := [some (aR 0), some (aI d), some (aI (pairsR sh E d)), none, none, none, none, none, none, none]) dX11_tryNext_5 rfl (by decide) rfl ?_
  refine j_iload_n (pc' := 7) (z := (pairsR sh E d)) dX11_tryNext_6 rfl rfl ?_
  have hrb := pairsR_bd (sh := sh) (E := E) (d := d)
  refine j_if_eq (tgt := 12) (pc' := 10) dX11_tryNext_7 (by decide) rfl (by omega) (fun h7 => ?_) (fun h7 => ?_)
  · obtain ⟨⟨hd7, hct⟩, hpr⟩ := pairsR_0 h7
    obtain ⟨q1, q2, q3, q4, q5, q6⟩ := id (hsh d hd7)
    have hsb := bset_127 (P := susP D n (E d) (sh 4 d)) (n := n) (by omega)
    have hsb : 0 ≤ susS D n (E d) (sh 4 d) ∧ susS D n (E d) (sh 4 d) ≤ 127 := hsb
    refine j_aload_n (pc' := 13) (z := 0) dX11_tryNext_12 rfl rfl ?_
    refine j_aload_n (pc' := 14) (z := 0) dX11_tryNext_13 rfl rfl ?_
    refine j_get (pc' := 17) (v := aR 34) dX11_tryNext_14 rfl f_Top_58 (by omega) hO rfl ?_
    refine j_iload_n (pc' := 18) (z := d) dX11_tryNext_17 rfl rfl ?_
    refine j_aald (pc' := 19) (r := (35 + 2 * (d).toNat)) (Cn := "RattleAtFifty$Shelf") dX11_tryNext_18 rfl (by omega) hS34 rfl (by omega) (by decide) rfl ?_
    refine j_callV (pc' := 22) (as := [aR (35 + 2 * (d).toNat)]) (rest := []) dX11_tryNext_19 rfl s_Top_195 (c_Top_suspectsBy hT.1 hB hsh (by omega) hpr) (by omega) hO rfl rfl rfl rfl (jdet (st' := [aI (susS D n (E d) (sh 4 d))]) rfl ?_)
    refine j_istore_n (pc' := 23) (L' := [some (aR 0), some (aI d), some (aI (pairsR sh E d)), some (aI (susS D n (E d) (sh 4 d))), none, none, none, none, none, none]) dX11_tryNext_22 rfl (by decide) rfl ?_
    refine j_iload_n (pc' := 24) (z := (susS D n (E d) (sh 4 d))) dX11_tryNext_23 rfl rfl ?_
    refine j_callS (pc' := 27) (as := [aI (susS D n (E d) (sh 4 d))]) (rest := []) dX11_tryNext_24 rfl s_Top_198 (c_bitCount (by omega)) rfl rfl rfl (jdet (st' := [aI (pop (susS D n (E d) (sh 4 d)))]) rfl ?_)
    refine j_iconst (pc' := 28) dX11_tryNext_27 rfl ?_
    have hpp := pop_bd' (x := susS D n (E d) (sh 4 d)) (by omega)
    refine j_icmp_ge (tgt := 34) (pc' := 31) dX11_tryNext_28 (by decide) rfl (by omega) (by omega) (fun h28 => ?_) (fun h28 => ?_)
    · refine j_aload_n (pc' := 35) (z := 0) dX11_tryNext_34 rfl rfl ?_
      refine j_get (pc' := 38) (v := aR 10) dX11_tryNext_35 rfl f_Top_42 (by omega) hO rfl ?_
      refine j_iload_n (pc' := 39) (z := (susS D n (E d) (sh 4 d))) dX11_tryNext_38 rfl rfl ?_
      refine j_callV (pc' := 42) (as := [aI (susS D n (E d) (sh 4 d))]) (rest := []) dX11_tryNext_39 rfl s_Top_210 (c_Car_weightOf hC hB hK (by omega) (by omega)) (by omega) hC.1 rfl rfl rfl rfl (jdet (st' := [aI (wts D n (susS D n (E d) (sh 4 d)))]) rfl ?_)
      refine j_istore (pc' := 44) (L' := [some (aR 0), some (aI d), some (aI (pairsR sh E d)), some (aI (susS D n (E d) (sh 4 d))), some (aI (wts D n (susS D n (E d) (sh 4 d)))), none, none, none, none, none]) dX11_tryNext_42 rfl (by decide) rfl ?_
      refine j_iconst (pc' := 45) dX11_tryNext_44 rfl ?_
      refine j_istore (pc' := 47) (L' := [some (aR 0), some (aI d), some (aI (pairsR sh E d)), some (aI (susS D n (E d) (sh 4 d))), some (aI (wts D n (susS D n (E d) (sh 4 d)))), some (aI 0), none, none, none, none]) dX11_tryNext_45 rfl (by decide) rfl ?_
      refine j_iconst (pc' := 48) dX11_tryNext_47 rfl ?_
      refine j_istore (pc' := 50) (L' := [some (aR 0), some (aI d), some (aI (pairsR sh E d)), some (aI (susS D n (E d) (sh 4 d))), some (aI (wts D n (susS D n (E d) (sh 4 d)))), some (aI 0), some (aI (-1)), none, none, none]) dX11_tryNext_48 rfl (by decide) rfl ?_
      refine j_iconst (pc' := 51) dX11_tryNext_50 rfl ?_
      refine j_istore (pc' := 53) (L' := [some (aR 0), some (aI d), some (aI (pairsR sh E d)), some (aI (susS D n (E d) (sh 4 d))), some (aI (wts D n (susS D n (E d) (sh 4 d)))), some (aI 0), some (aI (-1)), some (aI 0), none, none]) dX11_tryNext_51 rfl (by decide) rfl ?_
      have lp53 : ∀ (k9 : Nat) (b : Int) (v : Int) (i : Int), (0 ≤ i ∧ i ≤ 100) → ((b, v) = tnF D n (susS D n (E d) (sh 4 d)) i) → ((0 ≤ b ∧ b ≤ 100) ∧ -1000 ≤ v ∧ v ≤ 1000) → ((100 - i).toNat) = k9 → J l m_Top_tryNext ad G [] false (jZ ad G false 68 m_Top_tryNext.2.2.2.2.cells m_Top_tryNext.2.2.2.2.slots (jC w (tryA D n sh E d) D n mi hi Di ni mj sh E)) 68 0 0 53 [some (aR 0), some (aI d), some (aI (pairsR sh E d)), some (aI (susS D n (E d) (sh 4 d))), some (aI (wts D n (susS D n (E d) (sh 4 d)))), some (aI b), some (aI v), some (aI i), none, none] [] w := by
        intro k9
        induction k9 using Nat.strongRecOn with
        | _ k9 ih53 =>
          intro b v i hi9 hv hvb hk53
          refine j_iload (pc' := 55) (z := i) dX11_tryNext_53 rfl rfl ?_
          refine j_bipush (pc' := 57) dX11_tryNext_55 rfl (by decide) ?_
          refine j_icmp_ge (tgt := 113) (pc' := 60) dX11_tryNext_57 (by decide) rfl (by omega) (by omega) (fun h57 => ?_) (fun h57 => ?_)
          · refine j_iload (pc' := 115) (z := b) dX11_tryNext_113 rfl rfl ?_
            exact j_iret dX11_tryNext_115 rfl (jC_of (by unfold tryA; rw [if_pos h7, if_neg (by omega), ← show i = 100 by omega, ← hv]) hT)
          · refine j_aload_n (pc' := 61) (z := 0) dX11_tryNext_60 rfl rfl ?_
            refine j_get (pc' := 64) (v := aR 10) dX11_tryNext_61 rfl f_Top_42 (by omega) hO rfl ?_
            refine j_iload_n (pc' := 65) (z := (susS D n (E d) (sh 4 d))) dX11_tryNext_64 rfl rfl ?_
            refine j_aload_n (pc' := 66) (z := 0) dX11_tryNext_65 rfl rfl ?_
            refine j_get (pc' := 69) (v := aR 10) dX11_tryNext_66 rfl f_Top_42 (by omega) hO rfl ?_
            refine j_iload (pc' := 71) (z := i) dX11_tryNext_69 rfl rfl ?_
            refine j_callV (pc' := 74) (as := [aI i]) (rest := [aI (susS D n (E d) (sh 4 d)), aR 10]) dX11_tryNext_71 rfl s_Top_213 (c_Car_rattlingAt hC hB hK (by omega) (by omega)) (by omega) hC.1 rfl rfl rfl rfl (jdet (st' := [aI (ratS D n i), aI (susS D n (E d) (sh 4 d)), aR 10]) rfl ?_)
            have hr1 := bset_127 (P := ratP D i) (n := n) (by omega)
            have hr1 : 0 ≤ ratS D n i ∧ ratS D n i ≤ 127 := hr1
            have hab := andI_bd (a := susS D n (E d) (sh 4 d)) (b := ratS D n i) (by omega) (by omega)
            have hw1 := wts_bd (set := susS D n (E d) (sh 4 d)) hB
            have hw2 := wts_bd (set := andI (susS D n (E d) (sh 4 d)) (ratS D n i)) hB
            have htw : tnW D n (susS D n (E d) (sh 4 d)) i = min (wts D n (andI (susS D n (E d) (sh 4 d)) (ratS D n i))) (wts D n (susS D n (E d) (sh 4 d)) - wts D n (andI (susS D n (E d) (sh 4 d)) (ratS D n i))) := rfl
            refine j_iand (pc' := 75) (a := susS D n (E d) (sh 4 d)) (b := ratS D n i) dX11_tryNext_74 rfl (by omega) (by omega) ?_
            refine j_callV (pc' := 78) (as := [aI (andI (susS D n (E d) (sh 4 d)) (ratS D n i))]) (rest := []) dX11_tryNext_75 rfl s_Top_210 (c_Car_weightOf hC hB hK (by omega) (by omega)) (by omega) hC.1 rfl rfl rfl rfl (jdet (st' := [aI (wts D n (andI (susS D n (E d) (sh 4 d)) (ratS D n i)))]) rfl ?_)
            refine j_istore (pc' := 80) (L' := [some (aR 0), some (aI d), some (aI (pairsR sh E d)), some (aI (susS D n (E d) (sh 4 d))), some (aI (wts D n (susS D n (E d) (sh 4 d)))), some (aI b), some (aI v), some (aI i), some (aI (wts D n (andI (susS D n (E d) (sh 4 d)) (ratS D n i)))), none]) dX11_tryNext_78 rfl (by decide) rfl ?_
            refine j_iload (pc' := 82) (z := (wts D n (andI (susS D n (E d) (sh 4 d)) (ratS D n i)))) dX11_tryNext_80 rfl rfl ?_
            refine j_iload (pc' := 84) (z := (wts D n (susS D n (E d) (sh 4 d)))) dX11_tryNext_82 rfl rfl ?_
            refine j_iload (pc' := 86) (z := (wts D n (andI (susS D n (E d) (sh 4 d)) (ratS D n i)))) dX11_tryNext_84 rfl rfl ?_
            refine j_isub (pc' := 87) dX11_tryNext_86 rfl ?_
            refine j_mmin (pc' := 90) dX11_tryNext_87 rfl s_Top_216 rfl (by omega) (by omega) ?_
            refine j_istore (pc' := 92) (L' := [some (aR 0), some (aI d), some (aI (pairsR sh E d)), some (aI (susS D n (E d) (sh 4 d))), some (aI (wts D n (susS D n (E d) (sh 4 d)))), some (aI b), some (aI v), some (aI i), some (aI (wts D n (andI (susS D n (E d) (sh 4 d)) (ratS D n i)))), some (aI (tnW D n (susS D n (E d) (sh 4 d)) i))]) dX11_tryNext_90 rfl (by decide) rfl ?_
            refine j_iload (pc' := 94) (z := (tnW D n (susS D n (E d) (sh 4 d)) i)) dX11_tryNext_92 rfl rfl ?_
            refine j_iload (pc' := 96) (z := v) dX11_tryNext_94 rfl rfl ?_
            refine j_icmp_le (tgt := 107) (pc' := 99) dX11_tryNext_96 (by decide) rfl (by omega) (by omega) (fun h96 => ?_) (fun h96 => ?_)
            · refine j_iinc (pc' := 110) (z := i) (L' := [some (aR 0), some (aI d), some (aI (pairsR sh E d)), some (aI (susS D n (E d) (sh 4 d))), some (aI (wts D n (susS D n (E d) (sh 4 d)))), some (aI b), some (aI v), some (aI (i + 1)), some (aI (wts D n (andI (susS D n (E d) (sh 4 d)) (ratS D n i)))), some (aI (tnW D n (susS D n (E d) (sh 4 d)) i))]) dX11_tryNext_107 rfl (by decide) rfl rfl rfl ?_
              refine j_goto (pc' := 53) dX11_tryNext_110 (by decide) ?_
              refine j_forget 8 (L' := [some (aR 0), some (aI d), some (aI (pairsR sh E d)), some (aI (susS D n (E d) (sh 4 d))), some (aI (wts D n (susS D n (E d) (sh 4 d)))), some (aI b), some (aI v), some (aI (i + 1)), none, some (aI (tnW D n (susS D n (E d) (sh 4 d)) i))]) rfl ?_
              refine j_forget 9 (L' := [some (aR 0), some (aI d), some (aI (pairsR sh E d)), some (aI (susS D n (E d) (sh 4 d))), some (aI (wts D n (susS D n (E d) (sh 4 d)))), some (aI b), some (aI v), some (aI (i + 1)), none, none]) rfl ?_
              exact ih53 _ (by omega) b v (i + 1) (by omega) (by unfold tnF at hv ⊢; rw [foldI_s (by omega), ← hv]; unfold tnH; first | rw [if_pos (by omega)] | rw [if_neg (by omega)]) (by omega) rfl
            · refine j_iload (pc' := 101) (z := (tnW D n (susS D n (E d) (sh 4 d)) i)) dX11_tryNext_99 rfl rfl ?_
              refine j_istore (pc' := 103) (L' := [some (aR 0), some (aI d), some (aI (pairsR sh E d)), some (aI (susS D n (E d) (sh 4 d))), some (aI (wts D n (susS D n (E d) (sh 4 d)))), some (aI b), some (aI (tnW D n (susS D n (E d) (sh 4 d)) i)), some (aI i), some (aI (wts D n (andI (susS D n (E d) (sh 4 d)) (ratS D n i)))), some (aI (tnW D n (susS D n (E d) (sh 4 d)) i))]) dX11_tryNext_101 rfl (by decide) rfl ?_
              refine j_iload (pc' := 105) (z := i) dX11_tryNext_103 rfl rfl ?_
              refine j_istore (pc' := 107) (L' := [some (aR 0), some (aI d), some (aI (pairsR sh E d)), some (aI (susS D n (E d) (sh 4 d))), some (aI (wts D n (susS D n (E d) (sh 4 d)))), some (aI i), some (aI (tnW D n (susS D n (E d) (sh 4 d)) i)), some (aI i), some (aI (wts D n (andI (susS D n (E d) (sh 4 d)) (ratS D n i)))), some (aI (tnW D n (susS D n (E d) (sh 4 d)) i))]) dX11_tryNext_105 rfl (by decide) rfl ?_
              refine j_iinc (pc' := 110) (z := i) (L' := [some (aR 0), some (aI d), some (aI (pairsR sh E d)), some (aI (susS D n (E d) (sh 4 d))), some (aI (wts D n (susS D n (E d) (sh 4 d)))), some (aI i), some (aI (tnW D n (susS D n (E d) (sh 4 d)) i)), some (aI (i + 1)), some (aI (wts D n (andI (susS D n (E d) (sh 4 d)) (ratS D n i)))), some (aI (tnW D n (susS D n (E d) (sh 4 d)) i))]) dX11_tryNext_107 rfl (by decide) rfl rfl rfl ?_
              refine j_goto (pc' := 53) dX11_tryNext_110 (by decide) ?_
              refine j_forget 8 (L' := [some (aR 0), some (aI d), some (aI (pairsR sh E d)), some (aI (susS D n (E d) (sh 4 d))), some (aI (wts D n (susS D n (E d) (sh 4 d)))), some (aI i), some (aI (tnW D n (susS D n (E d) (sh 4 d)) i)), some (aI (i + 1)), none, some (aI (tnW D n (susS D n (E d) (sh 4 d)) i))]) rfl ?_
              refine j_forget 9 (L' := [some (aR 0), some (aI d), some (aI (pairsR sh E d)), some (aI (susS D n (E d) (sh 4 d))), some (aI (wts D n (susS D n (E d) (sh 4 d)))), some (aI i), some (aI (tnW D n (susS D n (E d) (sh 4 d)) i)), some (aI (i + 1)), none, none]) rfl ?_
              exact ih53 _ (by omega) i (tnW D n (susS D n (E d) (sh 4 d)) i) (i + 1) (by omega) (by unfold tnF at hv ⊢; rw [foldI_s (by omega), ← hv]; unfold tnH; first | rw [if_pos (by omega)] | rw [if_neg (by omega)]) (by omega) rfl
      exact lp53 _ 0 (-1) 0 (by omega) (by rfl) (by omega) rfl
    · refine j_bipush (pc' := 33) dX11_tryNext_31 rfl (by decide) ?_
      exact j_iret dX11_tryNext_33 rfl (jC_of (by unfold tryA; rw [if_pos h7, if_pos h28]) hT)
  · refine j_iload_n (pc' := 11) (z := (pairsR sh E d)) dX11_tryNext_10 rfl rfl ?_
    exact j_iret dX11_tryNext_11 rfl (jC_of (by unfold tryA; rw [if_neg h7]) hT)
