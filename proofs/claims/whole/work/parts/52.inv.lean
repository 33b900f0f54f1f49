theorem Comp.congr {w w' : AW} {D Di : Int → Int → Int} {n mi hi ni mj : Int} {sh E : Int → Int → Int} (h : Comp w D n mi hi Di ni mj sh E) (hw : ∀ j, j < 53 → w' j = w j) : Comp w' D n mi hi Di ni mj sh E := by
  obtain ⟨h1, h2, h3, ⟨Dt, nt, mt, h4⟩, h5, h6, h7, ⟨po, h8⟩, ⟨di, h9⟩⟩ := h
  exact ⟨by rw [hw 0 (by omega)]; exact h1, h2.congr (fun j a b => hw j (by omega)), h3.congr (fun j a b => hw j (by omega)), ⟨Dt, nt, mt, h4.congr (fun j a b => hw j (by omega))⟩, h5.congr (fun j a b => hw j (by omega)), by rw [hw 34 (by omega)]; exact h6, fun d hd => (h7 d hd).congr (fun j a b => hw j (by omega)), ⟨po, by rw [hw 51 (by omega)]; exact h8⟩, ⟨di, by rw [hw 52 (by omega)]; exact h9⟩⟩
theorem Mod.congr {w w' : AW} {D Di : Int → Int → Int} {n mi hi ni mj : Int} {sh E : Int → Int → Int} (h : Mod w D n mi hi Di ni mj sh E) (hw : ∀ j, 53 ≤ j → j < 67 → w' j = w j) : Mod w' D n mi hi Di ni mj sh E := by
  obtain ⟨⟨pc, ra, re, fm, se, th, h1⟩, ⟨S, h2, hR⟩, ⟨Sm, h3⟩, ⟨Si, h4, hRi⟩, ⟨Sw, h5⟩, ⟨f1, h6⟩, ⟨f2, h7⟩, ⟨f3, h8⟩, ke, kk, kf, so, si, el, ⟨g1, g2, g3, g4, g5, g6⟩, hs⟩ := h
  refine ⟨⟨pc, ra, re, fm, se, th, ?_⟩, ⟨S, ?_, hR⟩, ⟨Sm, ?_⟩, ⟨Si, ?_, hRi⟩, ⟨Sw, ?_⟩, ⟨f1, ?_⟩, ⟨f2, ?_⟩, ⟨f3, ?_⟩, ke, kk, kf, so, si, el, ⟨?_, ?_, ?_, ?_, ?_, ?_⟩, hs⟩ <;> rw [hw _ (by omega) (by omega)] <;> assumption
def Inv (D : Int → Int → Int) (n mi hi : Int) (Di : Int → Int → Int) (ni mj : Int) (sh E : Int → Int → Int) : Prop := CarOK D n mi ∧ CarOK Di ni mj ∧ (hi = 0 ∨ hi = 1) ∧ ShOK sh E ∧ WdOK D ∧ WdOK Di ∧ ByOK sh E
section IV
variable {D Di : Int → Int → Int} {n mi hi ni mj : Int} {sh E : Int → Int → Int}
theorem Inv.car {D' : Int → Int → Int} {n' mi' : Int} (h : Inv D n mi hi Di ni mj sh E) (h1 : CarOK D' n' mi') (h2 : WdOK D') : Inv D' n' mi' hi Di ni mj sh E := ⟨h1, h.2.1, h.2.2.1, h.2.2.2.1, h2, h.2.2.2.2.2.1, h.2.2.2.2.2.2⟩
theorem Inv.shel {sh' E' : Int → Int → Int} (h : Inv D n mi hi Di ni mj sh E) (h1 : ShOK sh' E') (h2 : ByOK sh' E') : Inv D n mi hi Di ni mj sh' E' := ⟨h.1, h.2.1, h.2.2.1, h1, h.2.2.2.2.1, h.2.2.2.2.2.1, h2⟩
theorem CarOK.adds {d s v : Int} (h : CarOK D n mi) : CarOK (addsD D sh n d s v) (addsN sh n d s v) mi := by
  unfold addsD addsN
  split
  · exact h.ti
  · exact h
theorem WdOK.adds {d s v : Int} (h : WdOK D) : WdOK (addsD D sh n d s v) := by
  unfold addsD
  split
  · exact h.ti
  · exact h
theorem roadX_ok {d : Int} (h : CarOK D n mi) (hw : WdOK D) : CSOK (roadX D n mi sh E d) := by
  unfold roadX
  split
  · exact fol_ok _ _ _ _ ⟨h, hw⟩
  · exact ⟨h, hw⟩
theorem ShOK.shU {d ct k f so sz : Int} {F : Int → Int} (h : ShOK sh E) (h1 : ShelfOK ct k f so sz F) : ShOK (shU sh d ct k f so sz) (elU E d F) := by
  intro x hx
  by_cases hxd : x = d
  · subst hxd
    simpa [_root_.Jvm.Pilot.CRattleAtFiftyLaw_law_r1825_3a8f7e.shU, elU] using h1
  · simpa [_root_.Jvm.Pilot.CRattleAtFiftyLaw_law_r1825_3a8f7e.shU, elU, hxd] using h x hx
theorem ShOK.el {d : Int} {F : Int → Int} (h : ShOK sh E) (h1 : (0 ≤ d ∧ d ≤ 7) → ∀ i, 0 ≤ i → i < 100 → inI (F i)) : ShOK sh (elU E d F) := by
  intro x hx
  by_cases hxd : x = d
  · subst hxd
    obtain ⟨q1, q2, q3, q4, q5, q6⟩ := h x hx
    refine ⟨q1, q2, q3, q4, q5, fun i h2 h3 => ?_⟩
    simp only [elU, if_true]
    exact h1 hx i h2 h3
  · simpa [elU, hxd] using h x hx
theorem elU_same {d : Int} : elU E d (E d) = E := by
  funext x
  unfold elU
  split
  · subst_vars; rfl
  · rfl
theorem Inv.keep {d x k f : Int} (h : Inv D n mi hi Di ni mj sh E) : Inv D n mi hi Di ni mj (keepS sh d x k f) E := by
  obtain ⟨g1, g2, g3, g4, g5, g6, g7⟩ := h
  refine Inv.shel ⟨g1, g2, g3, g4, g5, g6, g7⟩ ?_ ?_
  · unfold keepS
    split
    · rename_i hk
      unfold keepA at hk
      split at hk
      · rename_i hk2
        obtain ⟨q1, q2, q3, q4, q5, q6⟩ := g4 d hk2.1
        split
        · have := g4.shU (d := d) (ct := 0) (k := sh 1 d) (f := sh 2 d) (so := sh 3 d) (sz := 0) (F := E d) ⟨by omega, q2, q3, q4, by omega, q6⟩
          rwa [elU_same] at this
        · rename_i hx0
          have hr := hk2.2.2 (by omega)
          have := g4.shU (d := d) (ct := 1) (k := k) (f := f) (so := sh 3 d) (sz := 0) (F := E d) ⟨by omega, hr.1, hr.2, q4, by omega, q6⟩
          rwa [elU_same] at this
      · exact absurd hk (by omega)
    · exact g4
  · unfold keepS
    split
    · intro y hy h2 h3
      split at h2 <;> split at h3 <;> first | contradiction | skip
      all_goals
        by_cases hyd : y = d
        · subst hyd
          simp [shU] at h2
        · simp [shU, hyd] at h2 h3
          exact g7 y hy h2 h3
    · exact g7
theorem Inv.row {d so x : Int} (h : Inv D n mi hi Di ni mj sh E) : Inv D n mi hi Di ni mj (rowS sh d so x) (rowE E d so x) := by
  obtain ⟨g1, g2, g3, g4, g5, g6, g7⟩ := h
  refine Inv.shel ⟨g1, g2, g3, g4, g5, g6, g7⟩ ?_ ?_
  · unfold rowS rowE
    split
    · rename_i hk
      unfold rowA at hk
      split at hk
      · rename_i hk2
        split at hk
        · exact absurd hk (by omega)
        obtain ⟨q1, q2, q3, q4, q5, q6⟩ := g4 d hk2.1
        refine g4.shU ⟨by omega, q2, q3, hk2.2.1, by omega, fun i h1 h2 => ?_⟩
        unfold zer
        rw [if_pos (by omega)]
        omega
      · exact absurd hk (by omega)
    · exact g4
  · unfold rowS rowE
    split
    · intro y hy h2 h3 i hi9
      by_cases hyd : y = d
      · subst hyd
        simp only [elU, if_true]
        unfold zer
        rw [if_pos (by omega)]
        omega
      · simp [shU, hyd] at h2 h3
        simp only [elU, hyd, if_false]
        exact g7 y hy h2 h3 i hi9
    · exact g7
theorem nar_in {s v : Int} (hv : inI v) : inI (nar s v) := by
  have h1 := Int.le_bmod (x := v) (m := 256) (by decide)
  have h2 := Int.bmod_lt (x := v) (m := 256) (by decide)
  have h3 := Int.le_bmod (x := v) (m := 65536) (by decide)
  have h4 := Int.bmod_lt (x := v) (m := 65536) (by decide)
  unfold nar
  (repeat' split) <;> omega
theorem nar_by {v : Int} : -128 ≤ nar 0 v ∧ nar 0 v ≤ 127 := by
  have h1 := Int.le_bmod (x := v) (m := 256) (by decide)
  have h2 := Int.bmod_lt (x := v) (m := 256) (by decide)
  unfold nar
  rw [if_pos rfl]
  omega
theorem Inv.put {d i v : Int} (hv : inI v) (h : Inv D n mi hi Di ni mj sh E) : Inv D n mi hi Di ni mj sh (putE sh E d i v) := by
  obtain ⟨g1, g2, g3, g4, g5, g6, g7⟩ := h
  refine Inv.shel ⟨g1, g2, g3, g4, g5, g6, g7⟩ ?_ ?_
  · unfold putE
    split
    · refine g4.el (fun hd j h1 h2 => ?_)
      unfold upi
      split
      · exact nar_in hv
      · exact (g4 d hd).2.2.2.2.2 j h1 h2
    · exact g4
  · unfold putE
    split
    · intro y hy h2 h3 j hj
      by_cases hyd : y = d
      · subst hyd
        simp only [elU, if_true]
        unfold upi
        split
        · rw [h3]; exact nar_by
        · exact g7 y hy h2 h3 j hj
      · simp only [elU, hyd, if_false]
        exact g7 y hy h2 h3 j hj
    · exact g7
theorem Inv.copy {d i e j x : Int} (h : Inv D n mi hi Di ni mj sh E) : Inv D n mi hi Di ni mj sh (copyE sh E d i e j x) := by
  obtain ⟨g1, g2, g3, g4, g5, g6, g7⟩ := h
  have key : 0 ≤ copyA sh d i e j x → (0 ≤ d ∧ d ≤ 7) ∧ (0 ≤ e ∧ e ≤ 7) ∧ sh 0 d = 2 ∧ sh 3 d = sh 3 e ∧ (0 ≤ i ∧ 0 ≤ x ∧ i + x ≤ 100) := by
    intro h0
    unfold copyA at h0
    split at h0
    · omega
    · rename_i hc
      have hd : 0 ≤ d ∧ d ≤ 7 := by omega
      have he : 0 ≤ e ∧ e ≤ 7 := by omega
      obtain ⟨q1, q2, q3, q4, q5, q6⟩ := g4 d hd
      split at h0
      · omega
      · split at h0
        · omega
        · split at h0
          · refine ⟨hd, he, by omega, by omega, by omega⟩
          · omega
  refine Inv.shel ⟨g1, g2, g3, g4, g5, g6, g7⟩ ?_ ?_
  · unfold copyE
    split
    · rename_i h0
      obtain ⟨hd, he, h2, h3, h4⟩ := key h0
      refine g4.el (fun _ y h5 h6 => ?_)
      unfold cpyI
      split
      · exact (g4 d hd).2.2.2.2.2 _ (by omega) (by omega)
      · exact (g4 e he).2.2.2.2.2 y h5 h6
    · exact g4
  · unfold copyE
    split
    · rename_i h0
      obtain ⟨hd, he, h2, h3, h4⟩ := key h0
      intro y hy h5 h6 z hz
      by_cases hye : y = e
      · subst hye
        simp only [elU, if_true]
        unfold cpyI
        split
        · exact g7 d hd h2 (by omega) _ (by omega)
        · exact g7 y hy h5 h6 z hz
      · simp only [elU, hye, if_false]
        exact g7 y hy h5 h6 z hz
    · exact g7
theorem Inv.image (h : Inv D n mi hi Di ni mj sh E) : Inv D n mi 1 D n mi sh E := ⟨h.1, h.1, Or.inr rfl, h.2.2.2.1, h.2.2.2.2.1, h.2.2.2.2.1, h.2.2.2.2.2.2⟩
theorem Inv.restore (h : Inv D n mi hi Di ni mj sh E) : Inv (if hi = 0 then D else Di) (if hi = 0 then n else ni) (if hi = 0 then mi else mj) hi Di ni mj sh E := by
  split
  · exact h
  · exact h.car h.2.1 h.2.2.2.2.2.1
end IV
