-- ===== the component as a whole =====
def sref (i : Int) : Option Nat := some (35 + 2 * i.toNat)
def Comp (w : AW) (D : Int → Int → Int) (n mi hi : Int) (Di : Int → Int → Int) (ni mj : Int) (sh E : Int → Int → Int) : Prop :=
  w 0 = eO 10 [aR 10, aR 18, aR 26, aI hi, aR 1, aR 34, aR 51, aR 52] ∧ KindsAt w ∧ CarAt w 10 D n mi ∧ (∃ Dt nt mt, CarAt w 18 Dt nt mt) ∧ CarAt w 26 Di ni mj ∧ w 34 = eR 3 8 sref ∧ (∀ d, 0 ≤ d ∧ d ≤ 7 → ShelfAt w (35 + 2 * d.toNat) (sh 0 d) (sh 1 d) (sh 2 d) (sh 3 d) (sh 4 d) (E d)) ∧ (∃ po, w 51 = eI 7 po) ∧ ∃ di, w 52 = eI 64 di
def ShOK (sh E : Int → Int → Int) : Prop := ∀ d, 0 ≤ d ∧ d ≤ 7 → ShelfOK (sh 0 d) (sh 1 d) (sh 2 d) (sh 3 d) (sh 4 d) (E d)
/-- the component's cells in w, all others as in w0 -/
def TS (w0 w : AW) (D : Int → Int → Int) (n mi hi : Int) (Di : Int → Int → Int) (ni mj : Int) (sh E : Int → Int → Int) : Prop := Comp w D n mi hi Di ni mj sh E ∧ ∀ j, 53 ≤ j → w j = w0 j
section TSL
variable {w0 w : AW} {D Di D' : Int → Int → Int} {n mi hi ni mj n' mi' : Int} {sh E : Int → Int → Int}
theorem TS.rf (h : Comp w D n mi hi Di ni mj sh E) : TS w w D n mi hi Di ni mj sh E := ⟨h, fun _ _ => rfl⟩
theorem TS.trial (h : TS w0 w D n mi hi Di ni mj sh E) : TS w0 (carW w 18 D' n' mi') D n mi hi Di ni mj sh E := by
  obtain ⟨⟨h1, h2, h3, h4, h5, h6, h7, h8, h9⟩, hf⟩ := h
  refine ⟨⟨?_, carW_kinds h2 (by omega), carW_other h3 (by omega), ⟨_, _, _, CarAt_carW⟩, carW_other h5 (by omega), ?_, fun d hd => carW_shelf (h7 d hd) (by omega), ?_, ?_⟩, fun j hj => ?_⟩
  · rw [carW_out (by omega)]; exact h1
  · rw [carW_out (by omega)]; exact h6
  · obtain ⟨po, h8⟩ := h8
    exact ⟨po, by rw [carW_out (by omega)]; exact h8⟩
  · obtain ⟨di, h9⟩ := h9
    exact ⟨di, by rw [carW_out (by omega)]; exact h9⟩
  · rw [carW_out (by omega)]; exact hf j hj
theorem TS.car (h : TS w0 w D n mi hi Di ni mj sh E) : TS w0 (carW w 10 D' n' mi') D' n' mi' hi Di ni mj sh E := by
  obtain ⟨⟨h1, h2, h3, h4, h5, h6, h7, h8, h9⟩, hf⟩ := h
  obtain ⟨Dt, nt, mt, h4⟩ := h4
  refine ⟨⟨?_, carW_kinds h2 (by omega), CarAt_carW, ⟨Dt, nt, mt, carW_other h4 (by omega)⟩, carW_other h5 (by omega), ?_, fun d hd => carW_shelf (h7 d hd) (by omega), ?_, ?_⟩, fun j hj => ?_⟩
  · rw [carW_out (by omega)]; exact h1
  · rw [carW_out (by omega)]; exact h6
  · obtain ⟨po, h8⟩ := h8
    exact ⟨po, by rw [carW_out (by omega)]; exact h8⟩
  · obtain ⟨di, h9⟩ := h9
    exact ⟨di, by rw [carW_out (by omega)]; exact h9⟩
  · rw [carW_out (by omega)]; exact hf j hj
theorem TS.img (h : TS w0 w D n mi hi Di ni mj sh E) : TS w0 (carW w 26 D' n' mi') D n mi hi D' n' mi' sh E := by
  obtain ⟨⟨h1, h2, h3, h4, h5, h6, h7, h8, h9⟩, hf⟩ := h
  obtain ⟨Dt, nt, mt, h4⟩ := h4
  refine ⟨⟨?_, carW_kinds h2 (by omega), carW_other h3 (by omega), ⟨Dt, nt, mt, carW_other h4 (by omega)⟩, CarAt_carW, ?_, fun d hd => carW_shelf (h7 d hd) (by omega), ?_, ?_⟩, fun j hj => ?_⟩
  · rw [carW_out (by omega)]; exact h1
  · rw [carW_out (by omega)]; exact h6
  · obtain ⟨po, h8⟩ := h8
    exact ⟨po, by rw [carW_out (by omega)]; exact h8⟩
  · obtain ⟨di, h9⟩ := h9
    exact ⟨di, by rw [carW_out (by omega)]; exact h9⟩
  · rw [carW_out (by omega)]; exact hf j hj
theorem CarAt_up {c q : Nat} {e : AE} (h : CarAt w c D n mi) (hd : q < c ∨ c + 8 ≤ q) : CarAt (up w q e) c D n mi := by
  unfold CarAt
  refine ⟨?_, ?_, ?_, ?_, ?_, ?_, ?_, ?_⟩ <;> rw [up_n (by omega)]
  · exact h.1
  · exact h.2.1
  · exact h.2.2.1
  · exact h.2.2.2.1
  · exact h.2.2.2.2.1
  · exact h.2.2.2.2.2.1
  · exact h.2.2.2.2.2.2.1
  · exact h.2.2.2.2.2.2.2
theorem KindsAt_up0 {q : Nat} {e : AE} (h : KindsAt w) (hq : q = 0 ∨ 10 ≤ q) : KindsAt (up w q e) := by
  unfold KindsAt
  refine ⟨?_, ?_, ?_, ?_, ?_, ?_, ?_, ?_, ?_⟩ <;> rw [up_n (by omega)]
  · exact h.1
  · exact h.2.1
  · exact h.2.2.1
  · exact h.2.2.2.1
  · exact h.2.2.2.2.1
  · exact h.2.2.2.2.2.1
  · exact h.2.2.2.2.2.2.1
  · exact h.2.2.2.2.2.2.2.1
  · exact h.2.2.2.2.2.2.2.2
theorem ShelfAt_up {q p : Nat} {ct k f so sz : Int} {F : Int → Int} {e : AE} (h : ShelfAt w q ct k f so sz F) (hd : p < q ∨ q + 2 ≤ p) : ShelfAt (up w p e) q ct k f so sz F := by
  unfold ShelfAt
  refine ⟨?_, ?_⟩ <;> rw [up_n (by omega)]
  · exact h.1
  · exact h.2
theorem TS.pool {po : Int → Int} (h : TS w0 w D n mi hi Di ni mj sh E) : TS w0 (up w 51 (eI 7 po)) D n mi hi Di ni mj sh E := by
  obtain ⟨⟨h1, h2, h3, h4, h5, h6, h7, h8, h9⟩, hf⟩ := h
  obtain ⟨Dt, nt, mt, h4⟩ := h4
  obtain ⟨di, h9⟩ := h9
  exact ⟨⟨(up_n (by omega)).trans h1, KindsAt_up0 h2 (by omega), CarAt_up h3 (by omega), ⟨Dt, nt, mt, CarAt_up h4 (by omega)⟩, CarAt_up h5 (by omega), (up_n (by omega)).trans h6, fun d hd => ShelfAt_up (h7 d hd) (by omega), ⟨po, up_s⟩, di, (up_n (by omega)).trans h9⟩, fun j hj => (up_n (by omega)).trans (hf j hj)⟩
theorem TS.digits {di : Int → Int} (h : TS w0 w D n mi hi Di ni mj sh E) : TS w0 (up w 52 (eI 64 di)) D n mi hi Di ni mj sh E := by
  obtain ⟨⟨h1, h2, h3, h4, h5, h6, h7, h8, h9⟩, hf⟩ := h
  obtain ⟨Dt, nt, mt, h4⟩ := h4
  obtain ⟨po, h8⟩ := h8
  exact ⟨⟨(up_n (by omega)).trans h1, KindsAt_up0 h2 (by omega), CarAt_up h3 (by omega), ⟨Dt, nt, mt, CarAt_up h4 (by omega)⟩, CarAt_up h5 (by omega), (up_n (by omega)).trans h6, fun d hd => ShelfAt_up (h7 d hd) (by omega), ⟨po, (up_n (by omega)).trans h8⟩, di, up_s⟩, fun j hj => (up_n (by omega)).trans (hf j hj)⟩
theorem TS.flag {hj : Int} (h : TS w0 w D n mi hi Di ni mj sh E) : TS w0 (up w 0 (eO 10 [aR 10, aR 18, aR 26, aI hj, aR 1, aR 34, aR 51, aR 52])) D n mi hj Di ni mj sh E := by
  obtain ⟨⟨h1, h2, h3, h4, h5, h6, h7, h8, h9⟩, hf⟩ := h
  obtain ⟨Dt, nt, mt, h4⟩ := h4
  obtain ⟨po, h8⟩ := h8
  obtain ⟨di, h9⟩ := h9
  exact ⟨⟨up_s, KindsAt_up0 h2 (by omega), CarAt_up h3 (by omega), ⟨Dt, nt, mt, CarAt_up h4 (by omega)⟩, CarAt_up h5 (by omega), (up_n (by omega)).trans h6, fun d hd => ShelfAt_up (h7 d hd) (by omega), ⟨po, (up_n (by omega)).trans h8⟩, di, (up_n (by omega)).trans h9⟩, fun j hj => (up_n (by omega)).trans (hf j hj)⟩
/-- a shelf's fields -/
def shU (sh : Int → Int → Int) (d ct k f so sz : Int) : Int → Int → Int := fun j x => if x = d then (if j = 0 then ct else if j = 1 then k else if j = 2 then f else if j = 3 then so else sz) else sh j x
def elU (E : Int → Int → Int) (d : Int) (F : Int → Int) : Int → Int → Int := fun x => if x = d then F else E x
theorem TS.shelf {d ct k f so sz : Int} {F : Int → Int} (h : TS w0 w D n mi hi Di ni mj sh E) (hd : 0 ≤ d ∧ d ≤ 7) {w' : AW} (hw : ShelfAt w' (35 + 2 * d.toNat) ct k f so sz F) (ho : ∀ j, j ≠ 35 + 2 * d.toNat → j ≠ 35 + 2 * d.toNat + 1 → w' j = w j) : TS w0 w' D n mi hi Di ni mj (shU sh d ct k f so sz) (elU E d F) := by
  obtain ⟨⟨h1, h2, h3, h4, h5, h6, h7, h8, h9⟩, hf⟩ := h
  obtain ⟨Dt, nt, mt, h4⟩ := h4
  obtain ⟨po, h8⟩ := h8
  obtain ⟨di, h9⟩ := h9
  have car : ∀ {c : Nat} {D : Int → Int → Int} {n mi : Int}, CarAt w c D n mi → c + 8 ≤ 35 → CarAt w' c D n mi := by
    intro c D n mi h hc
    unfold CarAt
    refine ⟨?_, ?_, ?_, ?_, ?_, ?_, ?_, ?_⟩ <;> rw [ho _ (by omega) (by omega)]
    · exact h.1
    · exact h.2.1
    · exact h.2.2.1
    · exact h.2.2.2.1
    · exact h.2.2.2.2.1
    · exact h.2.2.2.2.2.1
    · exact h.2.2.2.2.2.2.1
    · exact h.2.2.2.2.2.2.2
  refine ⟨⟨(ho _ (by omega) (by omega)).trans h1, ?_, car h3 (by omega), ⟨Dt, nt, mt, car h4 (by omega)⟩, car h5 (by omega), (ho _ (by omega) (by omega)).trans h6, fun x hx => ?_, ⟨po, (ho _ (by omega) (by omega)).trans h8⟩, di, (ho _ (by omega) (by omega)).trans h9⟩, fun j hj => (ho _ (by omega) (by omega)).trans (hf j hj)⟩
  · unfold KindsAt
    refine ⟨?_, ?_, ?_, ?_, ?_, ?_, ?_, ?_, ?_⟩ <;> rw [ho _ (by omega) (by omega)]
    · exact h2.1
    · exact h2.2.1
    · exact h2.2.2.1
    · exact h2.2.2.2.1
    · exact h2.2.2.2.2.1
    · exact h2.2.2.2.2.2.1
    · exact h2.2.2.2.2.2.2.1
    · exact h2.2.2.2.2.2.2.2.1
    · exact h2.2.2.2.2.2.2.2.2
  · by_cases hxd : x = d
    · subst hxd
      simpa [shU, elU] using hw
    · have h := h7 x hx
      simp only [shU, elU, hxd, if_false]
      unfold ShelfAt at h ⊢
      rw [ho _ (by omega) (by omega), ho _ (by omega) (by omega)]
      exact h
end TSL
def rowR (sh : Int → Int → Int) (d : Int) : Int := if 0 ≤ d ∧ d ≤ 7 then refR (sh 0 d) else -1
def kinR (sh : Int → Int → Int) (d : Int) : Int := if 0 ≤ d ∧ d ≤ 7 then refK (sh 0 d) else -1
theorem rowR_bd {sh : Int → Int → Int} {d : Int} : -12 ≤ rowR sh d ∧ rowR sh d ≤ 0 := by unfold rowR refR; (repeat' split) <;> omega
theorem kinR_bd {sh : Int → Int → Int} {d : Int} : -12 ≤ kinR sh d ∧ kinR sh d ≤ 0 := by unfold kinR refK; (repeat' split) <;> omega
theorem rowR_0 {sh : Int → Int → Int} {d : Int} (h : rowR sh d = 0) : (0 ≤ d ∧ d ≤ 7) ∧ sh 0 d = 2 := by unfold rowR refR at h; split at h <;> (try split at h) <;> (try split at h) <;> omega
theorem kinR_0 {sh : Int → Int → Int} {d : Int} (h : kinR sh d = 0) : (0 ≤ d ∧ d ≤ 7) ∧ sh 0 d = 1 := by unfold kinR refK at h; split at h <;> (try split at h) <;> (try split at h) <;> omega
/-- what a call of the component answers, and its state then -/
def jC (w0 : AW) (v : Int) (D : Int → Int → Int) (n mi hi : Int) (Di : Int → Int → Int) (ni mj : Int) (sh E : Int → Int → Int) : Option AV → AW → Prop := fun r w' => r = some (aI v) ∧ TS w0 w' D n mi hi Di ni mj sh E
def jCL (w0 : AW) (v : Int) (D : Int → Int → Int) (n mi hi : Int) (Di : Int → Int → Int) (ni mj : Int) (sh E : Int → Int → Int) : Option AV → AW → Prop := fun r w' => r = some (aL v) ∧ TS w0 w' D n mi hi Di ni mj sh E
theorem jC_of {w0 w : AW} {v v' : Int} {D Di : Int → Int → Int} {n mi hi ni mj : Int} {sh E : Int → Int → Int} (hv : v = v') (h : TS w0 w D n mi hi Di ni mj sh E) : jC w0 v' D n mi hi Di ni mj sh E (some (aI v)) w := by subst hv; exact ⟨rfl, h⟩
theorem jCL_of {w0 w : AW} {v v' : Int} {D Di : Int → Int → Int} {n mi hi ni mj : Int} {sh E : Int → Int → Int} (hv : v = v') (h : TS w0 w D n mi hi Di ni mj sh E) : jCL w0 v' D n mi hi Di ni mj sh E (some (aL v)) w := by subst hv; exact ⟨rfl, h⟩
