-- ===== abstract values, cells, worlds =====
abbrev AV : Type := Int ⊕ (Int ⊕ Option Nat)
abbrev aI (z : Int) : AV := Sum.inl z
abbrev aL (z : Int) : AV := Sum.inr (Sum.inl z)
abbrev aR (k : Nat) : AV := Sum.inr (Sum.inr (some k))
abbrev aN : AV := Sum.inr (Sum.inr none)
def jv (ad : Nat → Nat) : AV → Value
  | .inl z => .int (Int32.ofInt z)
  | .inr (.inl z) => .long (Int64.ofInt z)
  | .inr (.inr none) => .null
  | .inr (.inr (some k)) => .ref (ad k)
def jcat : AV → Nat
  | .inr (.inl _) => 2
  | _ => 1
theorem jv_cat (ad : Nat → Nat) (v : AV) : (jv ad v).category = jcat v := by
  rcases v with z | z | _ | k <;> rfl
abbrev AE : Type := (Nat × List AV) ⊕ ((Nat × (Int → Int)) ⊕ ((Nat × (Int → Int)) ⊕ (Nat × Nat × (Int → Option Nat))))
abbrev eO (ci : Nat) (fs : List AV) : AE := Sum.inl (ci, fs)
abbrev eI (n : Nat) (f : Int → Int) : AE := Sum.inr (Sum.inl (n, f))
abbrev eL (n : Nat) (f : Int → Int) : AE := Sum.inr (Sum.inr (Sum.inl (n, f)))
abbrev eR (t n : Nat) (f : Int → Option Nat) : AE := Sum.inr (Sum.inr (Sum.inr (t, n, f)))
abbrev AW : Type := Nat → AE
abbrev JG : Type := (Nat → ClassId) × (Nat → Nat → Nat) × (Nat → ClassId)
def je (ca : Nat → ClassId) (ad : Nat → Nat) : AE → va_E
  | .inl (ci, fs) => .inr (ci, fs.map (jv ad))
  | .inr (.inl (n, f)) => .inl (ca 0, n, .inl (fun j => Int32.ofInt (f j)))
  | .inr (.inr (.inl (n, f))) => .inl (ca 1, n, .inr (.inl (fun j => Int64.ofInt (f j))))
  | .inr (.inr (.inr (t, n, f))) => .inl (ca t, n, .inr (.inr (.inr (.inr (fun j => (f j).map ad)))))
def jw (ca : Nat → ClassId) (ad : Nat → Nat) (w : AW) (N : Nat) : va_W := (List.range N).map (fun k => (ad k, je ca ad (w k)))
def up (w : AW) (k : Nat) (e : AE) : AW := fun j => if j = k then e else w j
def upi (f : Int → Int) (k x : Int) : Int → Int := fun j => if j = k then x else f j
theorem up_s {w : AW} {k : Nat} {e : AE} : up w k e k = e := by simp [up]
theorem up_n {w : AW} {k j : Nat} {e : AE} (h : j ≠ k) : up w k e j = w j := by simp [up, h]
theorem up_id {w : AW} {k : Nat} {e : AE} (h : w k = e) : up w k e = w := by
  funext j; by_cases hj : j = k
  · subst hj; simp [up, h]
  · simp [up, hj]
theorem upi_s {f : Int → Int} {k x : Int} : upi f k x k = x := by simp [upi]
theorem upi_n {f : Int → Int} {k j x : Int} (h : j ≠ k) : upi f k x j = f j := by simp [upi, h]
theorem jw_len {ca : Nat → ClassId} {ad : Nat → Nat} {w : AW} {N : Nat} : (jw ca ad w N).length = N := by simp [jw]
theorem jw_get {ca : Nat → ClassId} {ad : Nat → Nat} {w : AW} {N k : Nat} (h : k < N) : (jw ca ad w N)[k]? = some (ad k, je ca ad (w k)) := by
  simp [jw, h]
theorem jw_get' {ca : Nat → ClassId} {ad : Nat → Nat} {w : AW} {N k : Nat} {e : AE} (h : k < N) (he : w k = e) : (jw ca ad w N)[k]? = some (ad k, je ca ad e) := by
  rw [← he]; exact jw_get h
theorem jw_set {ca : Nat → ClassId} {ad : Nat → Nat} {w : AW} {N k : Nat} {e : AE} : (jw ca ad w N).set k (ad k, je ca ad e) = jw ca ad (up w k e) N := by
  apply List.ext_getElem?
  intro i
  by_cases hi : i < N
  · rw [jw_get hi]
    by_cases hk : i = k
    · subst hk
      rw [List.getElem?_set_self (by rw [jw_len]; exact hi), up_s]
    · rw [List.getElem?_set_ne (Ne.symm hk), jw_get hi, up_n hk]
  · rw [List.getElem?_eq_none (by rw [List.length_set, jw_len]; omega), List.getElem?_eq_none (by rw [jw_len]; omega)]
theorem jw_push {ca : Nat → ClassId} {ad : Nat → Nat} {w : AW} {N : Nat} {e : AE} : jw ca ad w N ++ [(ad N, je ca ad e)] = jw ca ad (up w N e) (N + 1) := by
  simp only [jw, List.range_succ, List.map_append, List.map_cons, List.map_nil, up_s]
  congr 1
  apply List.map_congr_left
  intro k hk
  rw [up_n (Nat.ne_of_lt (List.mem_range.mp hk))]
-- ===== locals =====
def jll (ad : Nat → Nat) : Nat → List (Option AV) → List (Nat × Value)
  | _, [] => []
  | i, none :: L => jll ad (i + 1) L
  | i, some v :: L => (i, jv ad v) :: jll ad (i + 1) L
theorem jll_mem {ad : Nat → Nat} : ∀ (L : List (Option AV)) (i : Nat) (q : Nat × Value), q ∈ jll ad i L ↔ ∃ (j : Nat) (v : AV), L[j]? = some (some v) ∧ q.1 = i + j ∧ q.2 = jv ad v
  | [], i, q => by simp [jll]
  | none :: L, i, q => by
    rw [jll, jll_mem L (i + 1) q]
    constructor
    · rintro ⟨j, v, h1, h2, h3⟩
      exact ⟨j + 1, v, by simpa using h1, by omega, h3⟩
    · rintro ⟨j, v, h1, h2, h3⟩
      cases j with
      | zero => simp at h1
      | succ j => exact ⟨j, v, by simpa using h1, by omega, h3⟩
  | some x :: L, i, q => by
    rw [jll, List.mem_cons, jll_mem L (i + 1) q]
    constructor
    · rintro (rfl | ⟨j, v, h1, h2, h3⟩)
      · exact ⟨0, x, by simp, by simp, rfl⟩
      · exact ⟨j + 1, v, by simpa using h1, by omega, h3⟩
    · rintro ⟨j, v, h1, h2, h3⟩
      cases j with
      | zero =>
        left
        simp at h1
        subst h1
        exact Prod.ext (by simpa using h2) h3
      | succ j => exact Or.inr ⟨j, v, by simpa using h1, by omega, h3⟩
def jl (ad : Nat → Nat) (ls : Array Slot) (nL : Nat) (L : List (Option AV)) : Prop := lv_has ls nL (jll ad 0 L)
theorem jl_at {ad : Nat → Nat} {ls : Array Slot} {nL k : Nat} {L : List (Option AV)} {v : AV} (h : jl ad ls nL L) (hk : L[k]? = some (some v)) : ls[k]? = some (.val (jv ad v)) :=
  h.2.2 (k, jv ad v) ((jll_mem L 0 _).mpr ⟨k, v, hk, by simp, rfl⟩)
/-- a local is stored: what was a long just ahead of it is gone -/
def cutL (L : List (Option AV)) (i : Nat) : List (Option AV) := match i with
  | 0 => L
  | j + 1 => match L[j]? with
    | some (some (.inr (.inl _))) => L.set j none
    | _ => L
theorem cutL_at {L : List (Option AV)} {i j : Nat} {v : AV} (h : (cutL L i)[j]? = some (some v)) : L[j]? = some (some v) ∧ ¬ (j + 1 = i ∧ jcat v = 2) := by
  cases i with
  | zero => exact ⟨h, by omega⟩
  | succ k =>
    unfold cutL at h
    simp only at h
    split at h
    · rename_i z hz
      by_cases hjk : j = k
      · subst hjk
        rw [List.getElem?_set_self (List.getElem?_eq_some_iff.mp hz).1] at h
        simp at h
      · rw [List.getElem?_set_ne (Ne.symm hjk)] at h
        exact ⟨h, by omega⟩
    · rename_i hz
      refine ⟨h, fun ⟨e, e2⟩ => ?_⟩
      have : j = k := by omega
      subst this
      rcases v with z | z | _ | z
      · simp [jcat] at e2
      · exact hz z h
      · simp [jcat] at e2
      · simp [jcat] at e2
theorem jl_store1 {ad : Nat → Nat} {ls : Array Slot} {nL i : Nat} {L L' : List (Option AV)} {v : AV} (hL : (cutL L i).set i (some v) = L') (h : lv_has ls nL ((i, jv ad v) :: (jll ad 0 L).filter (fun q => !(q.1 == i) && !(q.1 + 1 == i && q.2.category == 2)))) : jl ad ls nL L' := by
  subst hL
  refine ⟨h.1, h.2.1, fun q hq => ?_⟩
  obtain ⟨j, u, h1, h2, h3⟩ := (jll_mem _ 0 q).mp hq
  obtain ⟨a, b⟩ := q
  simp only at h2 h3
  have ea : a = j := by omega
  subst ea; subst h3
  by_cases hji : a = i
  · subst hji
    by_cases hl : a < (cutL L a).length
    · rw [List.getElem?_set_self hl] at h1
      simp at h1
      subst h1
      exact h.2.2 _ List.mem_cons_self
    · rw [List.getElem?_eq_none (by rw [List.length_set]; omega)] at h1
      simp at h1
  · rw [List.getElem?_set_ne (Ne.symm hji)] at h1
    obtain ⟨h4, h5⟩ := cutL_at h1
    refine h.2.2 _ (List.mem_cons_of_mem _ (List.mem_filter.mpr ⟨(jll_mem L 0 _).mpr ⟨a, u, h4, by simp, rfl⟩, ?_⟩))
    simp only [jv_cat, Bool.and_eq_true, Bool.not_eq_true', beq_eq_false_iff_ne, ne_eq, Bool.and_eq_false_iff]
    refine ⟨hji, ?_⟩
    by_cases e : a + 1 = i
    · exact Or.inr (fun e2 => h5 ⟨e, e2⟩)
    · exact Or.inl e
theorem jl_store2 {ad : Nat → Nat} {ls : Array Slot} {nL i : Nat} {L L' : List (Option AV)} {z : Int} (hL : (((cutL L i).set (i + 1) none).set i (some (aL z))) = L') (h : lv_has ls nL ((i, jv ad (aL z)) :: (jll ad 0 L).filter (fun q => !(q.1 == i) && (!(q.1 == i + 1) && !(q.1 + 1 == i && q.2.category == 2))))) : jl ad ls nL L' := by
  subst hL
  refine ⟨h.1, h.2.1, fun q hq => ?_⟩
  obtain ⟨j, u, h1, h2, h3⟩ := (jll_mem _ 0 q).mp hq
  obtain ⟨a, b⟩ := q
  simp only at h2 h3
  have ea : a = j := by omega
  subst ea; subst h3
  by_cases hji : a = i
  · subst hji
    by_cases hl : a < ((cutL L a).set (a + 1) none).length
    · rw [List.getElem?_set_self hl] at h1
      simp only [Option.some.injEq] at h1
      subst h1
      exact h.2.2 _ List.mem_cons_self
    · rw [List.getElem?_eq_none (by rw [List.length_set]; omega)] at h1
      simp at h1
  · rw [List.getElem?_set_ne (Ne.symm hji)] at h1
    by_cases hj2 : a = i + 1
    · subst hj2
      by_cases hl : i + 1 < (cutL L i).length
      · rw [List.getElem?_set_self hl] at h1
        simp at h1
      · rw [List.getElem?_eq_none (by rw [List.length_set]; omega)] at h1
        simp at h1
    · rw [List.getElem?_set_ne (Ne.symm hj2)] at h1
      obtain ⟨h4, h5⟩ := cutL_at h1
      refine h.2.2 _ (List.mem_cons_of_mem _ (List.mem_filter.mpr ⟨(jll_mem L 0 _).mpr ⟨a, u, h4, by simp, rfl⟩, ?_⟩))
      simp only [jv_cat, Bool.and_eq_true, Bool.not_eq_true', beq_eq_false_iff_ne, ne_eq, Bool.and_eq_false_iff]
      refine ⟨hji, hj2, ?_⟩
      by_cases e : a + 1 = i
      · exact Or.inr (fun e2 => h5 ⟨e, e2⟩)
      · exact Or.inl e
/-- the locals with which a method begins -/
def entL : List AV → List (Option AV)
  | [] => []
  | .inr (.inl z) :: r => some (aL z) :: none :: entL r
  | v :: r => some v :: entL r
theorem jll_none {ad : Nat → Nat} : ∀ (n i : Nat), jll ad i (List.replicate n none) = []
  | 0, _ => rfl
  | n + 1, i => by rw [List.replicate_succ, jll, jll_none n (i + 1)]
theorem jll_app {ad : Nat → Nat} (n : Nat) : ∀ (L : List (Option AV)) (i : Nat), jll ad i (L ++ List.replicate n none) = jll ad i L
  | [], i => by rw [List.nil_append, jll_none, jll]
  | none :: L, i => by rw [List.cons_append, jll, jll, jll_app n L]
  | some v :: L, i => by rw [List.cons_append, jll, jll, jll_app n L]
theorem jll_ent {ad : Nat → Nat} : ∀ (vs : List AV) (i : Nat), jll ad i (entL vs) = lv_args i (vs.map (jv ad))
  | [], i => rfl
  | .inl z :: r, i => by
    show (i, jv ad (aI z)) :: jll ad (i + 1) (entL r) = _
    rw [jll_ent r (i + 1)]; rfl
  | .inr (.inl z) :: r, i => by
    show (i, jv ad (aL z)) :: jll ad (i + 2) (entL r) = _
    rw [jll_ent r (i + 2)]; rfl
  | .inr (.inr none) :: r, i => by
    show (i, jv ad aN) :: jll ad (i + 1) (entL r) = _
    rw [jll_ent r (i + 1)]; rfl
  | .inr (.inr (some k)) :: r, i => by
    show (i, jv ad (aR k)) :: jll ad (i + 1) (entL r) = _
    rw [jll_ent r (i + 1)]; rfl
