-- ===== what keeps a car in order =====
theorem CarOK.ch {D : Int → Int → Int} {n mi k v : Int} (hB : CarOK D n mi) (hk : 0 ≤ k ∧ k ≤ 3) (hv : 0 ≤ v ∧ v ≤ mos k) : CarOK (upD D 6 k v) n mi := by
  obtain ⟨hn, hD, hs0, hs1, hs2, hs3⟩ := hB
  have e : ∀ j, j ≠ 6 → upD D 6 k v j = D j := fun j h => upD_n h
  refine ⟨hn, fun p h1 h2 => ?_, ?_, ?_, ?_, ?_⟩
  · rw [e 0 (by omega), e 1 (by omega), e 2 (by omega), e 3 (by omega), e 4 (by omega), e 5 (by omega)]
    exact hD p h1 h2
  all_goals
    rw [upD_s]
    unfold upi
    split
    · subst_vars
      simp [mos] at hv
      omega
    · assumption
theorem CarOK.st {D : Int → Int → Int} {n mi p v : Int} (hB : CarOK D n mi) (hv : 0 ≤ v ∧ v ≤ 3) : CarOK (upD D 4 p v) n mi := by
  obtain ⟨hn, hD, hs⟩ := hB
  have e : ∀ j, j ≠ 4 → upD D 4 p v j = D j := fun j h => upD_n h
  refine ⟨hn, fun q h1 h2 => ?_, by rw [e 6 (by omega)]; exact hs⟩
  rw [e 0 (by omega), e 1 (by omega), e 2 (by omega), e 3 (by omega), e 5 (by omega), upD_s]
  have := hD q h1 h2
  unfold upi
  split
  · subst_vars
    exact ⟨this.1, this.2.1, this.2.2.1, this.2.2.2.1, hv, this.2.2.2.2.2⟩
  · exact this
theorem CarOK.wd {D : Int → Int → Int} {n mi p : Int} (hB : CarOK D n mi) : CarOK (upD D 5 p 0) n mi := by
  obtain ⟨hn, hD, hs⟩ := hB
  have e : ∀ j, j ≠ 5 → upD D 5 p 0 j = D j := fun j h => upD_n h
  refine ⟨hn, fun q h1 h2 => ?_, by rw [e 6 (by omega)]; exact hs⟩
  rw [e 0 (by omega), e 1 (by omega), e 2 (by omega), e 3 (by omega), e 4 (by omega), upD_s]
  have := hD q h1 h2
  unfold upi
  split
  · exact ⟨this.1, this.2.1, this.2.2.1, this.2.2.2.1, this.2.2.2.2.1, by omega⟩
  · exact this
theorem CarOK.fg {D : Int → Int → Int} {n mi p v : Int} (hB : CarOK D n mi) (hv : 0 ≤ v ∧ v ≤ 9) : CarOK (upD D 1 p v) n mi := by
  obtain ⟨hn, hD, hs⟩ := hB
  have e : ∀ j, j ≠ 1 → upD D 1 p v j = D j := fun j h => upD_n h
  refine ⟨hn, fun q h1 h2 => ?_, by rw [e 6 (by omega)]; exact hs⟩
  rw [e 0 (by omega), e 4 (by omega), e 2 (by omega), e 3 (by omega), e 5 (by omega), upD_s]
  have := hD q h1 h2
  unfold upi
  split
  · exact ⟨this.1, hv, this.2.2⟩
  · exact this
theorem CarOK.hold {D : Int → Int → Int} {n mi p : Int} (hB : CarOK D n mi) : CarOK (holdD D n p) n mi := by
  unfold holdD; split
  · exact hB.st (by omega)
  · exact hB
theorem CarOK.wed {D : Int → Int → Int} {n mi p : Int} (hB : CarOK D n mi) : CarOK (wedD D n p) n mi := by
  unfold wedD; split
  · exact (hB.st (by omega)).wd
  · exact hB
theorem CarOK.out {D : Int → Int → Int} {n mi p : Int} (hB : CarOK D n mi) : CarOK (outD D n p) n mi := by
  unfold outD; split
  · refine hB.st ?_; split <;> omega
  · exact hB
theorem CarOK.scr {D : Int → Int → Int} {n mi p : Int} (hB : CarOK D n mi) (hp : 0 ≤ p ∧ p < n) : CarOK (scrD D n p) n mi := by
  have hn := hB.1
  have hx : 0 ≤ nxt n p ∧ nxt n p < 7 := by unfold nxt; split <;> omega
  have hf := (hB.2.1 (nxt n p) hx.1 hx.2).2.1
  have hl := loos_bd (k := D 0 (nxt n p))
  unfold scrD; split
  · exact hB.fg (by omega)
  · exact (hB.fg (by omega)).fg (by omega)
theorem CarOK.scw {D : Int → Int → Int} {n mi p : Int} (hB : CarOK D n mi) : CarOK (scwD D n p) n mi := by
  unfold scwD; split
  · exact hB.scr (by assumption)
  · exact hB
theorem CarOK.chd {D : Int → Int → Int} {n mi p v : Int} (hB : CarOK D n mi) : CarOK (chD D p v) n mi := by
  unfold chD; split
  · rename_i h
    exact hB.ch h.1 h.2
  · exact hB
theorem CarOK.end {D : Int → Int → Int} {n mi x : Int} (hB : CarOK D n mi) (hw : WdOK D) : CarOK (endD D x) n mi := by
  obtain ⟨hn, hD, hs⟩ := hB
  refine ⟨hn, fun q h1 h2 => ?_, by rw [endD_o (by omega) (by omega)]; exact hs⟩
  rw [endD_o (j := 0) (by omega) (by omega), endD_o (j := 1) (by omega) (by omega), endD_o (j := 2) (by omega) (by omega), endD_o (j := 3) (by omega) (by omega)]
  have := hD q h1 h2
  refine ⟨this.1, this.2.1, this.2.2.1, this.2.2.2.1, ?_⟩
  have h3 := this.2.2.2.2
  have h4 := hw q h1 h2
  unfold endD
  split
  · unfold eD1
    simp only [if_true, show ¬ ((5 : Int) = 4) by omega, if_false]
    (repeat' split) <;> omega
  · exact h3
theorem CarOK.mil {D : Int → Int → Int} {n mi m : Int} (hB : CarOK D n mi) (hm : 0 ≤ m ∧ m ≤ 9999) : CarOK D n m := ⟨⟨hB.1.1, hB.1.2.1, hm.1, hm.2⟩, hB.2⟩
theorem CarOK.dr {D : Int → Int → Int} {n mi x : Int} (hB : CarOK D n mi) (hw : WdOK D) : CarOK (drD D n mi x) n (drM mi x) := by
  have hn := hB.1
  unfold drD drM; split
  · exact (hB.end hw).mil (by omega)
  · exact hB
theorem CarOK.ti {D : Int → Int → Int} {n mi k f s v : Int} (hB : CarOK D n mi) : CarOK (tiD D n k f s v) (tiN n k f s v) mi := by
  unfold tiD tiN
  split
  · rename_i h
    obtain ⟨hn, hD, hs⟩ := hB
    have e6 : inD D n k f s v 6 = D 6 := by unfold inD; simp [upD]
    refine ⟨by omega, fun q h1 h2 => ?_, by rw [e6]; exact hs⟩
    have := hD q h1 h2
    have e0 : inD D n k f s v 0 = upi (D 0) n k := by unfold inD; simp [upD]
    have e1 : inD D n k f s v 1 = upi (D 1) n f := by unfold inD; simp [upD]
    have e2 : inD D n k f s v 2 = upi (D 2) n s := by unfold inD; simp [upD]
    have e3 : inD D n k f s v 3 = upi (D 3) n v := by unfold inD; simp [upD]
    have e4 : inD D n k f s v 4 = upi (D 4) n 0 := by unfold inD; simp [upD]
    have e5 : inD D n k f s v 5 = upi (D 5) n 0 := by unfold inD; simp [upD]
    rw [e0, e1, e2, e3, e4, e5]
    by_cases hq : q = n
    · subst hq
      rw [upi_s, upi_s, upi_s, upi_s, upi_s, upi_s]
      omega
    · rw [upi_n hq, upi_n hq, upi_n hq, upi_n hq, upi_n hq, upi_n hq]
      exact this
  · exact hB
theorem CarOK.ts {D : Int → Int → Int} {n mi x so : Int} {E : Int → Int} (hB : CarOK D n mi) (hE : ∀ p, 0 ≤ p → p < x → E p = least so ∨ (0 ≤ E p ∧ E p ≤ 3)) : CarOK (tsD D x E so) n mi := by
  obtain ⟨hn, hD, hs⟩ := hB
  refine ⟨hn, fun q h1 h2 => ?_, by rw [tsD_o (by omega)]; exact hs⟩
  have := hD q h1 h2
  rw [tsD_o (j := 0) (by omega), tsD_o (j := 1) (by omega), tsD_o (j := 2) (by omega), tsD_o (j := 3) (by omega), tsD_o (j := 5) (by omega)]
  refine ⟨this.1, this.2.1, this.2.2.1, this.2.2.2.1, ?_, this.2.2.2.2.2⟩
  unfold tsD
  split
  · rename_i h
    have := hE q h1 h.2.1.2
    omega
  · exact this.2.2.2.2.1
theorem WdOK.hold {D : Int → Int → Int} {n p : Int} (h : WdOK D) : WdOK (holdD D n p) := by
  unfold holdD; split
  · intro q h1 h2
    rw [upD_s, upD_n (by omega)]
    unfold upi; split
    · omega
    · exact h q h1 h2
  · exact h
theorem WdOK.wed {D : Int → Int → Int} {n p : Int} (h : WdOK D) : WdOK (wedD D n p) := by
  unfold wedD; split
  · intro q h1 h2
    rw [upD_s, upD_n (by omega), upD_s, upD_n (by omega)]
    unfold upi; split
    · omega
    · exact h q h1 h2
  · exact h
theorem WdOK.out {D : Int → Int → Int} {n p : Int} (h : WdOK D) : WdOK (outD D n p) := by
  unfold outD; split
  · intro q h1 h2
    rw [upD_s, upD_n (by omega)]
    unfold upi; split
    · split <;> omega
    · exact h q h1 h2
  · exact h
theorem WdOK.fg {D : Int → Int → Int} {p v : Int} (h : WdOK D) : WdOK (upD D 1 p v) := by
  intro q h1 h2
  rw [upD_n (by omega), upD_n (by omega)]
  exact h q h1 h2
theorem WdOK.ch {D : Int → Int → Int} {p v : Int} (h : WdOK D) : WdOK (upD D 6 p v) := by
  intro q h1 h2
  rw [upD_n (by omega), upD_n (by omega)]
  exact h q h1 h2
theorem WdOK.scr {D : Int → Int → Int} {n p : Int} (h : WdOK D) : WdOK (scrD D n p) := by
  unfold scrD; split
  · exact h.fg
  · exact h.fg.fg
theorem WdOK.scw {D : Int → Int → Int} {n p : Int} (h : WdOK D) : WdOK (scwD D n p) := by
  unfold scwD; split
  · exact h.scr
  · exact h
theorem WdOK.chd {D : Int → Int → Int} {p v : Int} (h : WdOK D) : WdOK (chD D p v) := by
  unfold chD; split
  · exact h.ch
  · exact h
theorem WdOK.end {D : Int → Int → Int} {x : Int} (h : WdOK D) : WdOK (endD D x) := by
  intro q h1 h2
  have := h q h1 h2
  unfold endD; split
  · unfold eD1
    simp only [if_true, show ¬ ((5 : Int) = 4) by omega, if_false]
    (repeat' split) <;> omega
  · exact this
theorem WdOK.dr {D : Int → Int → Int} {n mi x : Int} (h : WdOK D) : WdOK (drD D n mi x) := by
  unfold drD; split
  · exact h.end
  · exact h
theorem WdOK.ti {D : Int → Int → Int} {n k f s v : Int} (h : WdOK D) : WdOK (tiD D n k f s v) := by
  unfold tiD; split
  · intro q h1 h2
    have e4 : inD D n k f s v 4 = upi (D 4) n 0 := by unfold inD; simp [upD]
    have e5 : inD D n k f s v 5 = upi (D 5) n 0 := by unfold inD; simp [upD]
    rw [e4, e5]
    unfold upi; split
    · omega
    · exact h q h1 h2
  · exact h
