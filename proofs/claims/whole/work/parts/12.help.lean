section JH
variable {l : Launch} {M : MI} {ad : Nat → Nat} {G : JG} {X : List (Nat × Nat × (Int → Int))} {al : Bool} {Z : JZ} {N cells slots pc : Nat} {L : List (Option AV)} {st st' : List AV} {w w' w0 : AW}
theorem j_w (h : w = w') (k : J l M ad G X al Z N cells slots pc L st w') : J l M ad G X al Z N cells slots pc L st w := by subst h; exact k
theorem j_st (h : st = st') (k : J l M ad G X al Z N cells slots pc L st' w) : J l M ad G X al Z N cells slots pc L st w := by subst h; exact k
theorem j_top {a b : Int} (h : a = b) (k : J l M ad G X al Z N cells slots pc L (aI b :: st) w) : J l M ad G X al Z N cells slots pc L (aI a :: st) w := by subst h; exact k
theorem j_ext {q n : Nat} {f g : Int → Int} (hq : q < N) (hw : w q = eI n f) (h : ∀ i, 0 ≤ i → i < (n : Int) → f i = g i) (k : J l M ad G X al Z N cells slots pc L st (up w q (eI n g))) : J l M ad G X al Z N cells slots pc L st w := by
  intro p e s m args below meth c A H locs ls C P D S sz hl
  have he := jw_get' (ca := G.2.2) (ad := ad) hq hw
  have hcell : va_at (G.1, G.2.1) classes (ad q, je G.2.2 ad (eI n g)) H := by
    have h0 := P q _ he
    show H[ad q]? = some (vp_cell (G.2.2 0) (n, .inl (fun j : Nat => Int32.ofInt (g j))))
    have h1 : H[ad q]? = some (vp_cell (G.2.2 0) (n, .inl (fun j : Nat => Int32.ofInt (f j)))) := h0
    rw [h1, vp_cell_i, vp_cell_i]
    congr 1
    unfold arrV
    congr 2
    funext j
    show Value.int (Int32.ofInt (f (j.val : Int))) = Value.int (Int32.ofInt (g (j.val : Int)))
    rw [h (j.val : Int) (by omega) (by omega)]
  have P' := P.set (e := je G.2.2 ad (eI n g)) D he hcell (fun _ _ => rfl)
  have D' := D.set (e := je G.2.2 ad (eI n g)) he
  rw [jw_set] at P' D'
  exact k p e s m args below meth c A H locs ls C P' D' S sz hl
theorem j_forget {L' : List (Option AV)} (i : Nat) (hL : L.set i none = L') (k : J l M ad G X al Z N cells slots pc L' st w) : J l M ad G X al Z N cells slots pc L st w := by
  subst hL
  intro p e s m args below meth c A H locs ls C P D S sz hl
  refine k p e s m args below meth c A H locs ls C P D S sz ⟨hl.1, hl.2.1, fun q hq => ?_⟩
  obtain ⟨j, v, h1, h2, h3⟩ := (jll_mem _ 0 q).mp hq
  refine hl.2.2 q ((jll_mem L 0 q).mpr ⟨j, v, ?_, h2, h3⟩)
  by_cases hji : j = i
  · subst hji
    by_cases hlt : j < L.length
    · rw [List.getElem?_set_self hlt] at h1
      cases h1
    · rw [List.getElem?_eq_none (by rw [List.length_set]; omega)] at h1
      cases h1
  · rwa [List.getElem?_set_ne (Ne.symm hji)] at h1
theorem j_aret {Φ : Option AV → AW → Prop} {q : Nat} {Cn : String} (hd : JD M pc .areturn 1) (hr : M.2.2.2.1 = some (.object Cn)) (hΦ : Φ (some (aR q)) w) : J l M ad G X al (jZ ad G al N cells slots Φ) N cells slots pc L [aR q] w := by
  intro p e s m args below meth c A H locs ls C P D S sz hl
  have hlk := C.2.2.1
  exact W.aret (v := .ref (ad q)) C.1.1 C.1.2.1 (C.2.1.trans hr) (Or.inl ⟨_, rfl⟩) (Or.inr ⟨_, rfl⟩) (fun t ht _ => j_end (r := some (aR q)) (mc := 0) (ms := 0) hΦ P D S sz t ht) S.2.2 hd hlk
theorem rt_eqL {a b : Int} (h : a = b) : rt (some (aL b)) w0 (some (aL a)) w0 := by subst h; exact rt_rfl
theorem rt_b1 {P : Prop} [Decidable P] (h : P) : rt (some (aB P)) w0 (some (aI 1)) w0 := by
  have e : (aB P : AV) = aI 1 := by show aI (if P then 1 else 0) = _; rw [if_pos h]
  rw [e]; exact rt_rfl
theorem rt_b0 {P : Prop} [Decidable P] (h : ¬ P) : rt (some (aB P)) w0 (some (aI 0)) w0 := by
  have e : (aB P : AV) = aI 0 := by show aI (if P then 1 else 0) = _; rw [if_neg h]
  rw [e]; exact rt_rfl
theorem rt_bb {P Q : Prop} [Decidable P] [Decidable Q] (h : P ↔ Q) : rt (some (aB Q)) w0 (some (aB P)) w0 := by
  have e : (aB P : AV) = aB Q := by
    show aI (if P then 1 else 0) = aI (if Q then 1 else 0)
    by_cases hp : P
    · rw [if_pos hp, if_pos (h.mp hp)]
    · rw [if_neg hp, if_neg (fun q => hp (h.mpr q))]
  rw [e]; exact rt_rfl
theorem rt_w {r : Option AV} {w1 : AW} (h : w1 = w0) : rt r w0 r w1 := ⟨rfl, h⟩
theorem rt_ew {a b : Int} {w1 : AW} (h : a = b) (h2 : w1 = w0) : rt (some (aI b)) w0 (some (aI a)) w1 := by subst h; exact ⟨rfl, h2⟩
end JH
/-- a fold over 0 .. n-1 -/
def foldI {α : Type} (g : Int → α → α) (a : α) (n : Int) : α := Nat.rec a (fun k x => g (k : Int) x) n.toNat
theorem foldI_0 {α : Type} {g : Int → α → α} {a : α} : foldI g a 0 = a := rfl
theorem foldI_s {α : Type} {g : Int → α → α} {a : α} {n : Int} (h : 0 ≤ n) : foldI g a (n + 1) = g n (foldI g a n) := by
  unfold foldI
  rw [show (n + 1).toNat = n.toNat + 1 by omega]
  show g ((n.toNat : Nat) : Int) _ = _
  rw [Int.toNat_of_nonneg h]
theorem foldI_congr {α : Type} {g g' : Int → α → α} {a : α} {n : Int} (h : ∀ k x, 0 ≤ k → k < n → g k x = g' k x) : foldI g a n = foldI g' a n := by
  have key : ∀ m : Nat, (m : Int) ≤ n → foldI g a m = foldI g' a m := by
    intro m
    induction m with
    | zero => intro _; rfl
    | succ m ih =>
      intro hm
      rw [show ((m + 1 : Nat) : Int) = (m : Int) + 1 by omega, foldI_s (by omega), foldI_s (by omega), ih (by omega), h _ _ (by omega) (by omega)]
  by_cases h0 : 0 ≤ n
  · have := key n.toNat (by omega)
    rwa [Int.toNat_of_nonneg h0] at this
  · unfold foldI
    rw [show n.toNat = 0 by omega]; rfl
def sumI (f : Int → Int) (n : Int) : Int := foldI (fun k x => x + f k) 0 n
theorem sumI_0 {f : Int → Int} : sumI f 0 = 0 := rfl
theorem sumI_s {f : Int → Int} {n : Int} (h : 0 ≤ n) : sumI f (n + 1) = sumI f n + f n := foldI_s h
theorem sumI_congr {f g : Int → Int} {n : Int} (h : ∀ k, 0 ≤ k → k < n → f k = g k) : sumI f n = sumI g n := foldI_congr (fun k x h1 h2 => by rw [h k h1 h2])
theorem sumI_bd {f : Int → Int} {n lo hi : Int} (h0 : 0 ≤ n) (h : ∀ k, 0 ≤ k → k < n → lo ≤ f k ∧ f k ≤ hi) : lo * n ≤ sumI f n ∧ sumI f n ≤ hi * n := by
  have key : ∀ m : Nat, (m : Int) ≤ n → lo * m ≤ sumI f m ∧ sumI f m ≤ hi * m := by
    intro m
    induction m with
    | zero => intro _; simp [sumI_0]
    | succ m ih =>
      intro hm
      rw [show ((m + 1 : Nat) : Int) = (m : Int) + 1 by omega, sumI_s (by omega), Int.mul_add, Int.mul_add]
      have := ih (by omega)
      have := h m (by omega) (by omega)
      omega
  have := key n.toNat (by omega)
  rwa [Int.toNat_of_nonneg h0] at this
def allI (P : Int → Bool) (n : Int) : Bool := foldI (fun k b => b && P k) true n
theorem allI_0 {P : Int → Bool} : allI P 0 = true := rfl
theorem allI_s {P : Int → Bool} {n : Int} (h : 0 ≤ n) : allI P (n + 1) = (allI P n && P n) := foldI_s h
theorem allI_iff {P : Int → Bool} {n : Int} : allI P n = true ↔ ∀ k, 0 ≤ k → k < n → P k = true := by
  have key : ∀ m : Nat, allI P m = true ↔ ∀ k : Int, 0 ≤ k → k < m → P k = true := by
    intro m
    induction m with
    | zero => exact ⟨fun _ k h1 h2 => by omega, fun _ => rfl⟩
    | succ m ih =>
      rw [show ((m + 1 : Nat) : Int) = (m : Int) + 1 by omega, allI_s (by omega), Bool.and_eq_true, ih]
      constructor
      · rintro ⟨h1, h2⟩ k h3 h4
        by_cases hk : k = m
        · subst hk; exact h2
        · exact h1 k h3 (by omega)
      · intro h
        exact ⟨fun k h1 h2 => h k h1 (by omega), h m (by omega) (by omega)⟩
  by_cases h0 : 0 ≤ n
  · have := key n.toNat
    rwa [Int.toNat_of_nonneg h0] at this
  · constructor
    · intro _ k h1 h2; omega
    · intro _
      unfold allI foldI
      rw [show n.toNat = 0 by omega]
      rfl
