-- ===== the reference: its cells, its rows =====
abbrev mOb (hi pc ra re fm se th : Int) : AE := eO 11 [aR 54, aR 55, aR 56, aR 57, aI hi, aI pc, aI ra, aI re, aR 58, aR 59, aR 60, aI fm, aI se, aR 61, aR 62, aR 63, aR 64, aR 65, aR 66, aI th]
/-- a row of the reference tells a car -/
def Row (S : Int → Int) (D : Int → Int → Int) (n mi : Int) : Prop := S 0 = n ∧ S 1 = mi ∧ (∀ k, 0 ≤ k ∧ k ≤ 3 → S (2 + k) = D 6 k) ∧ ∀ p, 0 ≤ p ∧ p < n → (∀ j, 0 ≤ j ∧ j ≤ 4 → S (6 + 6 * p + j) = D j p) ∧ (D 4 p = 2 → S (6 + 6 * p + 5) = D 5 p)
/-- the same, without how often a wedge was counted -/
def Rw (S : Int → Int) (D : Int → Int → Int) (n mi : Int) : Prop := S 0 = n ∧ S 1 = mi ∧ (∀ k, 0 ≤ k ∧ k ≤ 3 → S (2 + k) = D 6 k) ∧ ∀ p, 0 ≤ p ∧ p < n → ∀ j, 0 ≤ j ∧ j ≤ 4 → S (6 + 6 * p + j) = D j p
section RW
variable {S : Int → Int} {D D' : Int → Int → Int} {n mi : Int}
theorem Rw.pn (h : Rw S D n mi) : S 0 = n := h.1
theorem Rw.pm (h : Rw S D n mi) : S 1 = mi := h.2.1
theorem Rw.st (h : Rw S D n mi) {k : Int} (hk : 0 ≤ k ∧ k ≤ 3) : S (2 + k) = D 6 k := h.2.2.1 k hk
theorem Rw.s0 (h : Rw S D n mi) : S 2 = D 6 0 := h.st (k := 0) (by omega)
theorem Rw.s1 (h : Rw S D n mi) : S 3 = D 6 1 := h.st (k := 1) (by omega)
theorem Rw.s2 (h : Rw S D n mi) : S 4 = D 6 2 := h.st (k := 2) (by omega)
theorem Rw.s3 (h : Rw S D n mi) : S 5 = D 6 3 := h.st (k := 3) (by omega)
theorem Rw.pj (h : Rw S D n mi) {p j : Int} (hp : 0 ≤ p ∧ p < n) (hj : 0 ≤ j ∧ j ≤ 4) : S (6 + 6 * p + j) = D j p := h.2.2.2 p hp j hj
theorem Rw.w (h : Rw S D n mi) : Rw S D n mi := h
theorem Row.w (h : Row S D n mi) : Rw S D n mi := ⟨h.1, h.2.1, h.2.2.1, fun p hp => (h.2.2.2 p hp).1⟩
theorem Rw.set (h : Rw S D n mi) {k x : Int} (hk : 0 ≤ k ∧ k ≤ 3) : Rw (upi S (2 + k) x) (upD D 6 k x) n mi := by
  refine ⟨?_, ?_, fun j hj => ?_, fun q hq j hj => ?_⟩
  · rw [upi_n (by omega)]; exact h.pn
  · rw [upi_n (by omega)]; exact h.pm
  · rw [upD_s]
    by_cases e : j = k
    · subst e; rw [upi_s, upi_s]
    · rw [upi_n (by omega), upi_n e]; exact h.st hj
  · rw [upi_n (by omega), upD_n (by omega)]; exact h.pj hq hj
/-- a state is written -/
theorem Rw.sta (h : Rw S D n mi) {p x : Int} (hp : 0 ≤ p ∧ p < n) (h4 : D' 4 = upi (D 4) p x) (ho : ∀ j, j ≠ 4 → D' j = D j) : Rw (upi S (6 + 6 * p + 4) x) D' n mi := by
  refine ⟨?_, ?_, fun j hj => ?_, fun q hq j hj => ?_⟩
  · rw [upi_n (by omega)]; exact h.pn
  · rw [upi_n (by omega)]; exact h.pm
  · rw [upi_n (by omega), ho 6 (by omega)]; exact h.st hj
  · by_cases e : j = 4
    · subst e
      rw [h4]
      by_cases e2 : q = p
      · subst e2; rw [upi_s, upi_s]
      · rw [upi_n (by omega), upi_n e2]; exact h.pj hq hj
    · rw [upi_n (by omega), ho j e]; exact h.pj hq hj
theorem Rw.ex {X Y : Int → Int} (h : Rw X D n mi) (e : X = Y) : Rw Y D n mi := by subst e; exact h
theorem Rw.exD {X : Int → Int} (h : Rw X D n mi) (e : D = D') : Rw X D' n mi := by subst e; exact h
end RW
section ROW
variable {S : Int → Int} {D D' : Int → Int → Int} {n mi : Int}
theorem Row.pn (h : Row S D n mi) : S 0 = n := h.1
theorem Row.pm (h : Row S D n mi) : S 1 = mi := h.2.1
theorem Row.st (h : Row S D n mi) {k : Int} (hk : 0 ≤ k ∧ k ≤ 3) : S (2 + k) = D 6 k := h.2.2.1 k hk
theorem Row.s0 (h : Row S D n mi) : S 2 = D 6 0 := h.st (k := 0) (by omega)
theorem Row.s1 (h : Row S D n mi) : S 3 = D 6 1 := h.st (k := 1) (by omega)
theorem Row.s2 (h : Row S D n mi) : S 4 = D 6 2 := h.st (k := 2) (by omega)
theorem Row.s3 (h : Row S D n mi) : S 5 = D 6 3 := h.st (k := 3) (by omega)
theorem Row.pj (h : Row S D n mi) {p j : Int} (hp : 0 ≤ p ∧ p < n) (hj : 0 ≤ j ∧ j ≤ 4) : S (6 + 6 * p + j) = D j p := (h.2.2.2 p hp).1 j hj
theorem Row.wd (h : Row S D n mi) {p : Int} (hp : 0 ≤ p ∧ p < n) (h2 : D 4 p = 2) : S (6 + 6 * p + 5) = D 5 p := (h.2.2.2 p hp).2 h2
/-- one place of a part is written -/
theorem Row.at (h : Row S D n mi) {p k v : Int} {D' : Int → Int → Int} (hp : 0 ≤ p ∧ p < n) (hk : 0 ≤ k ∧ k ≤ 5) (h6 : D' 6 = D 6) (ho : ∀ q j, 0 ≤ q ∧ q < n → 0 ≤ j ∧ j ≤ 5 → ¬ (q = p ∧ j = k) → D' j q = D j q) (hv : k ≤ 4 → v = D' k p) (hw : k = 5 → D' 4 p = 2 → v = D' 5 p) (hw4 : k = 4 → v = 2 → S (6 + 6 * p + 5) = D 5 p) : Row (upi S (6 + 6 * p + k) v) D' n mi := by
  refine ⟨?_, ?_, fun j hj => ?_, fun q hq => ⟨fun j hj => ?_, fun h2 => ?_⟩⟩
  · rw [upi_n (by omega)]; exact h.pn
  · rw [upi_n (by omega)]; exact h.pm
  · rw [upi_n (by omega), h6]; exact h.st hj
  · by_cases e : q = p ∧ j = k
    · obtain ⟨rfl, rfl⟩ := e
      rw [upi_s]; exact hv hj.2
    · rw [upi_n (by omega), ho q j hq (by omega) e]; exact h.pj hq hj
  · by_cases e : q = p ∧ (5 : Int) = k
    · obtain ⟨rfl, rfl⟩ := e
      rw [upi_s]; exact hw rfl h2
    · rw [upi_n (by omega), ho q 5 hq (by omega) e]
      by_cases e4 : q = p ∧ k = 4
      · obtain ⟨rfl, rfl⟩ := e4
        exact hw4 rfl ((hv (by omega)).trans h2)
      · rw [ho q 4 hq (by omega) (by omega)] at h2
        exact h.wd hq h2
theorem Row.put (h : Row S D n mi) {p x : Int} (hp : 0 ≤ p ∧ p < n) (hx : x ≠ 2) : Row (upi (upi S (6 + 6 * p + 4) x) (6 + 6 * p + 5) 0) (upD D 4 p x) n mi := by
  refine Row.at (D := upD D 4 p x) (h.at (k := 4) (D' := upD D 4 p x) hp (by omega) (upD_n (by omega)) (fun q j _ _ e => ?_) (fun _ => ?_) (fun e => by omega) (fun _ e => absurd e hx)) hp (by omega) rfl (fun _ _ _ _ _ => rfl) (fun e => by omega) (fun _ e => ?_) (fun e => by omega)
  · by_cases hj : j = 4
    · subst hj; rw [upD_s, upi_n (by omega)]
    · rw [upD_n hj]
  · rw [upD_s, upi_s]
  · rw [upD_s, upi_s] at e; exact absurd e hx
theorem Row.putW (h : Row S D n mi) {p : Int} (hp : 0 ≤ p ∧ p < n) : Row (upi (upi S (6 + 6 * p + 4) 2) (6 + 6 * p + 5) 0) (upD (upD D 4 p 2) 5 p 0) n mi := by
  refine ⟨?_, ?_, fun j hj => ?_, fun q hq => ⟨fun j hj => ?_, fun h2 => ?_⟩⟩
  · rw [upi_n (by omega), upi_n (by omega)]; exact h.pn
  · rw [upi_n (by omega), upi_n (by omega)]; exact h.pm
  · rw [upi_n (by omega), upi_n (by omega), upD_n (by omega), upD_n (by omega)]; exact h.st hj
  · rw [upi_n (by omega), upD_n (by omega)]
    by_cases e : j = 4
    · subst e
      rw [upD_s]
      by_cases e2 : q = p
      · subst e2; rw [upi_s, upi_s]
      · rw [upi_n (by omega), upi_n e2]; exact h.pj hq hj
    · rw [upi_n (by omega), upD_n e]; exact h.pj hq hj
  · rw [upD_s]
    by_cases e2 : q = p
    · subst e2; rw [upi_s, upi_s]
    · rw [upD_n (by omega), upD_s, upi_n e2] at h2
      rw [upi_n (by omega), upi_n (by omega), upi_n e2, upD_n (by omega)]
      exact h.wd hq h2
theorem Row.fg (h : Row S D n mi) {p x : Int} (hp : 0 ≤ p ∧ p < n) : Row (upi S (6 + 6 * p + 1) x) (upD D 1 p x) n mi := by
  refine h.at hp (by omega) (upD_n (by omega)) (fun q j _ _ e => ?_) (fun _ => ?_) (fun e => by omega) (fun e => by omega)
  · by_cases hj : j = 1
    · subst hj; rw [upD_s, upi_n (by omega)]
    · rw [upD_n hj]
  · rw [upD_s, upi_s]
theorem Row.set (h : Row S D n mi) {k x : Int} (hk : 0 ≤ k ∧ k ≤ 3) : Row (upi S (2 + k) x) (upD D 6 k x) n mi := by
  refine ⟨?_, ?_, fun j hj => ?_, fun q hq => ⟨fun j hj => ?_, fun h2 => ?_⟩⟩
  · rw [upi_n (by omega)]; exact h.pn
  · rw [upi_n (by omega)]; exact h.pm
  · rw [upD_s]
    by_cases e : j = k
    · subst e; rw [upi_s, upi_s]
    · rw [upi_n (by omega), upi_n e]; exact h.st hj
  · rw [upi_n (by omega), upD_n (by omega)]; exact h.pj hq hj
  · rw [upD_n (by omega)] at h2
    rw [upi_n (by omega), upD_n (by omega)]; exact h.wd hq h2
theorem Row.mil (h : Row S D n mi) {x : Int} (hn : 0 ≤ n) : Row (upi S 1 x) D n x := by
  refine ⟨?_, upi_s, fun j hj => ?_, fun q hq => ⟨fun j hj => ?_, fun h2 => ?_⟩⟩
  · rw [upi_n (by omega)]; exact h.pn
  · rw [upi_n (by omega)]; exact h.st hj
  · rw [upi_n (by omega)]; exact h.pj hq hj
  · rw [upi_n (by omega)]; exact h.wd hq h2
theorem Row.add (h : Row S D n mi) {k f s v x : Int} (hn : 0 ≤ n) : Row (upi (upi (upi (upi (upi (upi (upi S (6 + 6 * n + 0) k) (6 + 6 * n + 1) f) (6 + 6 * n + 2) s) (6 + 6 * n + 3) v) (6 + 6 * n + 4) 0) (6 + 6 * n + 5) 0) 0 (n + 1)) (inD D n k f s v) (n + 1) mi := by
  have e6 : inD D n k f s v 6 = D 6 := by unfold inD; simp [upD]
  have e0 : inD D n k f s v 0 = upi (D 0) n k := by unfold inD; simp [upD]
  have e1 : inD D n k f s v 1 = upi (D 1) n f := by unfold inD; simp [upD]
  have e2 : inD D n k f s v 2 = upi (D 2) n s := by unfold inD; simp [upD]
  have e3 : inD D n k f s v 3 = upi (D 3) n v := by unfold inD; simp [upD]
  have e4 : inD D n k f s v 4 = upi (D 4) n 0 := by unfold inD; simp [upD]
  have e5 : inD D n k f s v 5 = upi (D 5) n 0 := by unfold inD; simp [upD]
  refine ⟨upi_s, ?_, fun j hj => ?_, fun q hq => ⟨fun j hj => ?_, fun h2 => ?_⟩⟩
  · rw [upi_n (by omega), upi_n (by omega), upi_n (by omega), upi_n (by omega), upi_n (by omega), upi_n (by omega), upi_n (by omega)]; exact h.pm
  · rw [upi_n (by omega), upi_n (by omega), upi_n (by omega), upi_n (by omega), upi_n (by omega), upi_n (by omega), upi_n (by omega), e6]; exact h.st hj
  · rw [upi_n (by omega)]
    by_cases hqn : q = n
    · subst hqn
      rcases (show j = 0 ∨ j = 1 ∨ j = 2 ∨ j = 3 ∨ j = 4 by omega) with rfl | rfl | rfl | rfl | rfl
      · rw [e0, upi_s]; rw [upi_n (by omega)]; rw [upi_n (by omega)]; rw [upi_n (by omega)]; rw [upi_n (by omega)]; rw [upi_n (by omega)]; exact upi_s
      · rw [e1, upi_s]; rw [upi_n (by omega)]; rw [upi_n (by omega)]; rw [upi_n (by omega)]; rw [upi_n (by omega)]; exact upi_s
      · rw [e2, upi_s]; rw [upi_n (by omega)]; rw [upi_n (by omega)]; rw [upi_n (by omega)]; exact upi_s
      · rw [e3, upi_s]; rw [upi_n (by omega)]; rw [upi_n (by omega)]; exact upi_s
      · rw [e4, upi_s]; rw [upi_n (by omega)]; exact upi_s
    · rw [upi_n (by omega), upi_n (by omega), upi_n (by omega), upi_n (by omega), upi_n (by omega), upi_n (by omega), h.pj (by omega) hj]
      rcases (show j = 0 ∨ j = 1 ∨ j = 2 ∨ j = 3 ∨ j = 4 by omega) with rfl | rfl | rfl | rfl | rfl
      · rw [e0, upi_n hqn]
      · rw [e1, upi_n hqn]
      · rw [e2, upi_n hqn]
      · rw [e3, upi_n hqn]
      · rw [e4, upi_n hqn]
  · rw [e4] at h2
    by_cases hqn : q = n
    · subst hqn; rw [upi_s] at h2; omega
    · rw [upi_n hqn] at h2
      rw [upi_n (by omega), upi_n (by omega), upi_n (by omega), upi_n (by omega), upi_n (by omega), upi_n (by omega), upi_n (by omega), e5, upi_n hqn]
      exact h.wd (by omega) h2
/-- one step behind a drive -/
theorem Row.drv {X : Int → Int} {i : Int} (h : Row X (endD D i) n mi) (hi : 0 ≤ i ∧ i < n) : X (6 + 6 * i + 4) = D 4 i ∧ (D 4 i = 2 → X (6 + 6 * i + 5) = D 5 i) := by
  have h4 := h.pj (p := i) (j := 4) hi (by omega)
  rw [endD_at] at h4
  refine ⟨h4, fun h2 => ?_⟩
  have h5 := h.wd hi (by rw [endD_at]; exact h2)
  rwa [endD_at] at h5
theorem Row.ex {X Y : Int → Int} (h : Row X D n mi) (e : X = Y) : Row Y D n mi := by subst e; exact h
theorem endD_q {D : Int → Int → Int} {i j q : Int} (hq : ¬ q = i) : endD D (i + 1) j q = endD D i j q := (endD_far hq).symm
theorem endD_i {D : Int → Int → Int} {i j : Int} (hi : 0 ≤ i) : endD D (i + 1) j i = eD1 D j i := by unfold endD; rw [if_pos (by omega)]
theorem Row.drvK {X : Int → Int} {i : Int} (h : Row X (endD D i) n mi) (hi : 0 ≤ i ∧ i < n) (h1 : ¬ D 4 i = 1) (h2 : ¬ D 4 i = 2) : Row X (endD D (i + 1)) n mi := by
  have e : ∀ j q, 0 ≤ j ∧ j ≤ 5 → endD D (i + 1) j q = endD D i j q := by
    intro j q hj
    by_cases hq : q = i
    · subst hq
      rw [endD_i hi.1, endD_at]
      unfold eD1
      (repeat' split) <;> first | rfl | omega | (subst_vars; simp_all)
    · exact endD_q hq
  refine ⟨h.1, h.2.1, fun k hk => by rw [endD_o (by omega) (by omega)]; have := h.st hk; rwa [endD_o (by omega) (by omega)] at this, fun q hq => ⟨fun j hj => ?_, fun h2 => ?_⟩⟩
  · rw [e j q (by omega)]; exact h.pj hq hj
  · rw [e 4 q (by omega)] at h2
    rw [e 5 q (by omega)]; exact h.wd hq h2
theorem Row.drvH {X : Int → Int} {i : Int} (h : Row X (endD D i) n mi) (hi : 0 ≤ i ∧ i < n) (h1 : D 4 i = 1) : Row (upi X (6 + 6 * i + 4) 0) (endD D (i + 1)) n mi := by
  refine h.at hi (by omega) (by rw [endD_o (by omega) (by omega), endD_o (by omega) (by omega)]) (fun q j hq hj e => ?_) (fun _ => ?_) (fun e => by omega) (fun _ e => by omega)
  · by_cases hqi : q = i
    · subst hqi
      rw [endD_i hi.1, endD_at]
      unfold eD1
      (repeat' split) <;> first | rfl | omega | (subst_vars; simp_all)
    · exact endD_q hqi
  · rw [endD_i hi.1]; unfold eD1; rw [if_pos rfl, if_pos h1]
theorem Row.drvW {X : Int → Int} {i : Int} (h : Row X (endD D i) n mi) (hi : 0 ≤ i ∧ i < n) (h2 : D 4 i = 2) (h5 : ¬ 2 ≤ D 5 i + 1) : Row (upi X (6 + 6 * i + 5) (D 5 i + 1)) (endD D (i + 1)) n mi := by
  refine h.at hi (by omega) (by rw [endD_o (by omega) (by omega), endD_o (by omega) (by omega)]) (fun q j hq hj e => ?_) (fun e => by omega) (fun _ _ => ?_) (fun e => by omega)
  · by_cases hqi : q = i
    · subst hqi
      rw [endD_i hi.1, endD_at]
      unfold eD1
      (repeat' split) <;> first | rfl | omega | (subst_vars; simp_all)
    · exact endD_q hqi
  · rw [endD_i hi.1]; unfold eD1; rw [if_neg (by omega), if_pos rfl, if_pos h2]
theorem Row.drvF {X : Int → Int} {i y : Int} (h : Row X (endD D i) n mi) (hi : 0 ≤ i ∧ i < n) (h2 : D 4 i = 2) (h5 : 2 ≤ D 5 i + 1) : Row (upi (upi X (6 + 6 * i + 5) y) (6 + 6 * i + 4) 0) (endD D (i + 1)) n mi := by
  have e4 : endD D (i + 1) 4 i = 0 := by rw [endD_i hi.1]; unfold eD1; rw [if_pos rfl, if_neg (by omega), if_pos h2, if_pos h5]
  refine ⟨?_, ?_, fun j hj => ?_, fun q hq => ⟨fun j hj => ?_, fun g2 => ?_⟩⟩
  · rw [upi_n (by omega), upi_n (by omega)]; exact h.pn
  · rw [upi_n (by omega), upi_n (by omega)]; exact h.pm
  · have := h.st hj
    rw [endD_o (by omega) (by omega)] at this
    rw [upi_n (by omega), upi_n (by omega), endD_o (by omega) (by omega)]; exact this
  · by_cases e : q = i ∧ j = 4
    · obtain ⟨rfl, rfl⟩ := e
      rw [upi_s, e4]
    · rw [upi_n (by omega), upi_n (by omega), h.pj hq hj]
      by_cases hqi : q = i
      · subst hqi
        rw [endD_i hi.1, endD_at]
        unfold eD1
        rw [if_neg (by omega), if_neg (by omega)]
      · exact (endD_q hqi).symm
  · by_cases hqi : q = i
    · subst hqi; rw [e4] at g2; omega
    · rw [endD_q hqi] at g2
      rw [upi_n (by omega), upi_n (by omega), endD_q hqi]
      exact h.wd hq g2
theorem Row.exD {X : Int → Int} (h : Row X D n mi) (e : D = D') : Row X D' n mi := by subst e; exact h
end ROW
def ShRel (sh E : Int → Int → Int) (ke kk kf so si el : Int → Int) : Prop := ∀ d, 0 ≤ d ∧ d ≤ 7 → ke d = sh 0 d ∧ (sh 0 d = 1 → kk d = sh 1 d ∧ kf d = sh 2 d) ∧ (sh 0 d = 2 → so d = sh 3 d ∧ si d = sh 4 d ∧ ∀ i, 0 ≤ i ∧ i < 100 → el (100 * d + i) = E d i)
def Mod (w : AW) (D : Int → Int → Int) (n mi hi : Int) (Di : Int → Int → Int) (ni mj : Int) (sh E : Int → Int → Int) : Prop :=
  (∃ pc ra re fm se th, w 53 = mOb hi pc ra re fm se th) ∧ (∃ S, w 54 = eI 48 S ∧ Row S D n mi) ∧ (∃ S, w 55 = eI 48 S) ∧ (∃ S, w 56 = eI 48 S ∧ (hi = 1 → Row S Di ni mj)) ∧ (∃ S, w 57 = eI 48 S) ∧ (∃ f, w 58 = eI 4 f) ∧ (∃ f, w 59 = eI 128 f) ∧ (∃ f, w 60 = eI 80 f) ∧ ∃ ke kk kf so si el, (w 61 = eI 8 ke ∧ w 62 = eI 8 kk ∧ w 63 = eI 8 kf ∧ w 64 = eI 8 so ∧ w 65 = eI 8 si ∧ w 66 = eI 800 el) ∧ ShRel sh E ke kk kf so si el
/-- the reference's cells in w, all others as in w0 -/
def MS (w0 w : AW) (D : Int → Int → Int) (n mi hi : Int) (Di : Int → Int → Int) (ni mj : Int) (sh E : Int → Int → Int) : Prop := Mod w D n mi hi Di ni mj sh E ∧ ∀ j, (j < 53 ∨ 67 ≤ j) → w j = w0 j
section MSL
variable {w0 w : AW} {D Di D' : Int → Int → Int} {n mi hi ni mj n' mi' : Int} {sh E : Int → Int → Int}
theorem MS.rf (h : Mod w D n mi hi Di ni mj sh E) : MS w w D n mi hi Di ni mj sh E := ⟨h, fun _ _ => rfl⟩
theorem MS.ob {pc ra re fm se th : Int} (h : MS w0 w D n mi hi Di ni mj sh E) : MS w0 (up w 53 (mOb hi pc ra re fm se th)) D n mi hi Di ni mj sh E := by
  obtain ⟨⟨-, ⟨S, h2, hR⟩, ⟨Sm, h3⟩, ⟨Si, h4, hRi⟩, ⟨Sw, h5⟩, ⟨f1, h6⟩, ⟨f2, h7⟩, ⟨f3, h8⟩, ke, kk, kf, so, si, el, ⟨g1, g2, g3, g4, g5, g6⟩, hs⟩, hf⟩ := h
  exact ⟨⟨⟨_, _, _, _, _, _, up_s⟩, ⟨S, (up_n (by omega)).trans h2, hR⟩, ⟨Sm, (up_n (by omega)).trans h3⟩, ⟨Si, (up_n (by omega)).trans h4, hRi⟩, ⟨Sw, (up_n (by omega)).trans h5⟩, ⟨f1, (up_n (by omega)).trans h6⟩, ⟨f2, (up_n (by omega)).trans h7⟩, ⟨f3, (up_n (by omega)).trans h8⟩, ke, kk, kf, so, si, el, ⟨(up_n (by omega)).trans g1, (up_n (by omega)).trans g2, (up_n (by omega)).trans g3, (up_n (by omega)).trans g4, (up_n (by omega)).trans g5, (up_n (by omega)).trans g6⟩, hs⟩, fun j hj => (up_n (by omega)).trans (hf j hj)⟩
theorem MS.s {S' : Int → Int} (h : MS w0 w D n mi hi Di ni mj sh E) (hS : Row S' D' n' mi') : MS w0 (up w 54 (eI 48 S')) D' n' mi' hi Di ni mj sh E := by
  obtain ⟨⟨⟨_, _, _, _, _, _, h1⟩, -, ⟨Sm, h3⟩, ⟨Si, h4, hRi⟩, ⟨Sw, h5⟩, ⟨f1, h6⟩, ⟨f2, h7⟩, ⟨f3, h8⟩, ke, kk, kf, so, si, el, ⟨g1, g2, g3, g4, g5, g6⟩, hs⟩, hf⟩ := h
  exact ⟨⟨⟨_, _, _, _, _, _, (up_n (by omega)).trans h1⟩, ⟨S', up_s, hS⟩, ⟨Sm, (up_n (by omega)).trans h3⟩, ⟨Si, (up_n (by omega)).trans h4, hRi⟩, ⟨Sw, (up_n (by omega)).trans h5⟩, ⟨f1, (up_n (by omega)).trans h6⟩, ⟨f2, (up_n (by omega)).trans h7⟩, ⟨f3, (up_n (by omega)).trans h8⟩, ke, kk, kf, so, si, el, ⟨(up_n (by omega)).trans g1, (up_n (by omega)).trans g2, (up_n (by omega)).trans g3, (up_n (by omega)).trans g4, (up_n (by omega)).trans g5, (up_n (by omega)).trans g6⟩, hs⟩, fun j hj => (up_n (by omega)).trans (hf j hj)⟩
theorem MS.m {f : Int → Int} (h : MS w0 w D n mi hi Di ni mj sh E) : MS w0 (up w 55 (eI 48 f)) D n mi hi Di ni mj sh E := by
  obtain ⟨⟨⟨_, _, _, _, _, _, h1⟩, ⟨S, h2, hR⟩, -, ⟨Si, h4, hRi⟩, ⟨Sw, h5⟩, ⟨f1, h6⟩, ⟨f2, h7⟩, ⟨f3, h8⟩, ke, kk, kf, so, si, el, ⟨g1, g2, g3, g4, g5, g6⟩, hs⟩, hf⟩ := h
  exact ⟨⟨⟨_, _, _, _, _, _, (up_n (by omega)).trans h1⟩, ⟨S, (up_n (by omega)).trans h2, hR⟩, ⟨_, up_s⟩, ⟨Si, (up_n (by omega)).trans h4, hRi⟩, ⟨Sw, (up_n (by omega)).trans h5⟩, ⟨f1, (up_n (by omega)).trans h6⟩, ⟨f2, (up_n (by omega)).trans h7⟩, ⟨f3, (up_n (by omega)).trans h8⟩, ke, kk, kf, so, si, el, ⟨(up_n (by omega)).trans g1, (up_n (by omega)).trans g2, (up_n (by omega)).trans g3, (up_n (by omega)).trans g4, (up_n (by omega)).trans g5, (up_n (by omega)).trans g6⟩, hs⟩, fun j hj => (up_n (by omega)).trans (hf j hj)⟩
theorem MS.was {f : Int → Int} (h : MS w0 w D n mi hi Di ni mj sh E) : MS w0 (up w 57 (eI 48 f)) D n mi hi Di ni mj sh E := by
  obtain ⟨⟨⟨_, _, _, _, _, _, h1⟩, ⟨S, h2, hR⟩, ⟨Sm, h3⟩, ⟨Si, h4, hRi⟩, -, ⟨f1, h6⟩, ⟨f2, h7⟩, ⟨f3, h8⟩, ke, kk, kf, so, si, el, ⟨g1, g2, g3, g4, g5, g6⟩, hs⟩, hf⟩ := h
  exact ⟨⟨⟨_, _, _, _, _, _, (up_n (by omega)).trans h1⟩, ⟨S, (up_n (by omega)).trans h2, hR⟩, ⟨Sm, (up_n (by omega)).trans h3⟩, ⟨Si, (up_n (by omega)).trans h4, hRi⟩, ⟨_, up_s⟩, ⟨f1, (up_n (by omega)).trans h6⟩, ⟨f2, (up_n (by omega)).trans h7⟩, ⟨f3, (up_n (by omega)).trans h8⟩, ke, kk, kf, so, si, el, ⟨(up_n (by omega)).trans g1, (up_n (by omega)).trans g2, (up_n (by omega)).trans g3, (up_n (by omega)).trans g4, (up_n (by omega)).trans g5, (up_n (by omega)).trans g6⟩, hs⟩, fun j hj => (up_n (by omega)).trans (hf j hj)⟩
theorem MS.nu {f : Int → Int} (h : MS w0 w D n mi hi Di ni mj sh E) : MS w0 (up w 58 (eI 4 f)) D n mi hi Di ni mj sh E := by
  obtain ⟨⟨⟨_, _, _, _, _, _, h1⟩, ⟨S, h2, hR⟩, ⟨Sm, h3⟩, ⟨Si, h4, hRi⟩, ⟨Sw, h5⟩, -, ⟨f2, h7⟩, ⟨f3, h8⟩, ke, kk, kf, so, si, el, ⟨g1, g2, g3, g4, g5, g6⟩, hs⟩, hf⟩ := h
  exact ⟨⟨⟨_, _, _, _, _, _, (up_n (by omega)).trans h1⟩, ⟨S, (up_n (by omega)).trans h2, hR⟩, ⟨Sm, (up_n (by omega)).trans h3⟩, ⟨Si, (up_n (by omega)).trans h4, hRi⟩, ⟨Sw, (up_n (by omega)).trans h5⟩, ⟨_, up_s⟩, ⟨f2, (up_n (by omega)).trans h7⟩, ⟨f3, (up_n (by omega)).trans h8⟩, ke, kk, kf, so, si, el, ⟨(up_n (by omega)).trans g1, (up_n (by omega)).trans g2, (up_n (by omega)).trans g3, (up_n (by omega)).trans g4, (up_n (by omega)).trans g5, (up_n (by omega)).trans g6⟩, hs⟩, fun j hj => (up_n (by omega)).trans (hf j hj)⟩
theorem MS.ha {f : Int → Int} (h : MS w0 w D n mi hi Di ni mj sh E) : MS w0 (up w 59 (eI 128 f)) D n mi hi Di ni mj sh E := by
  obtain ⟨⟨⟨_, _, _, _, _, _, h1⟩, ⟨S, h2, hR⟩, ⟨Sm, h3⟩, ⟨Si, h4, hRi⟩, ⟨Sw, h5⟩, ⟨f1, h6⟩, -, ⟨f3, h8⟩, ke, kk, kf, so, si, el, ⟨g1, g2, g3, g4, g5, g6⟩, hs⟩, hf⟩ := h
  exact ⟨⟨⟨_, _, _, _, _, _, (up_n (by omega)).trans h1⟩, ⟨S, (up_n (by omega)).trans h2, hR⟩, ⟨Sm, (up_n (by omega)).trans h3⟩, ⟨Si, (up_n (by omega)).trans h4, hRi⟩, ⟨Sw, (up_n (by omega)).trans h5⟩, ⟨f1, (up_n (by omega)).trans h6⟩, ⟨_, up_s⟩, ⟨f3, (up_n (by omega)).trans h8⟩, ke, kk, kf, so, si, el, ⟨(up_n (by omega)).trans g1, (up_n (by omega)).trans g2, (up_n (by omega)).trans g3, (up_n (by omega)).trans g4, (up_n (by omega)).trans g5, (up_n (by omega)).trans g6⟩, hs⟩, fun j hj => (up_n (by omega)).trans (hf j hj)⟩
theorem MS.fi {f : Int → Int} (h : MS w0 w D n mi hi Di ni mj sh E) : MS w0 (up w 60 (eI 80 f)) D n mi hi Di ni mj sh E := by
  obtain ⟨⟨⟨_, _, _, _, _, _, h1⟩, ⟨S, h2, hR⟩, ⟨Sm, h3⟩, ⟨Si, h4, hRi⟩, ⟨Sw, h5⟩, ⟨f1, h6⟩, ⟨f2, h7⟩, -, ke, kk, kf, so, si, el, ⟨g1, g2, g3, g4, g5, g6⟩, hs⟩, hf⟩ := h
  exact ⟨⟨⟨_, _, _, _, _, _, (up_n (by omega)).trans h1⟩, ⟨S, (up_n (by omega)).trans h2, hR⟩, ⟨Sm, (up_n (by omega)).trans h3⟩, ⟨Si, (up_n (by omega)).trans h4, hRi⟩, ⟨Sw, (up_n (by omega)).trans h5⟩, ⟨f1, (up_n (by omega)).trans h6⟩, ⟨f2, (up_n (by omega)).trans h7⟩, ⟨_, up_s⟩, ke, kk, kf, so, si, el, ⟨(up_n (by omega)).trans g1, (up_n (by omega)).trans g2, (up_n (by omega)).trans g3, (up_n (by omega)).trans g4, (up_n (by omega)).trans g5, (up_n (by omega)).trans g6⟩, hs⟩, fun j hj => (up_n (by omega)).trans (hf j hj)⟩
theorem MS.img {S' : Int → Int} (h : MS w0 w D n mi hi Di ni mj sh E) (hS : Row S' D' n' mi') : MS w0 (up w 56 (eI 48 S')) D n mi hi D' n' mi' sh E := by
  obtain ⟨⟨⟨_, _, _, _, _, _, h1⟩, ⟨S, h2, hR⟩, ⟨Sm, h3⟩, ⟨Si, h4, hRi⟩, ⟨Sw, h5⟩, ⟨f1, h6⟩, ⟨f2, h7⟩, ⟨f3, h8⟩, ke, kk, kf, so, si, el, ⟨g1, g2, g3, g4, g5, g6⟩, hs⟩, hf⟩ := h
  exact ⟨⟨⟨_, _, _, _, _, _, (up_n (by omega)).trans h1⟩, ⟨S, (up_n (by omega)).trans h2, hR⟩, ⟨Sm, (up_n (by omega)).trans h3⟩, ⟨S', up_s, fun _ => hS⟩, ⟨Sw, (up_n (by omega)).trans h5⟩, ⟨f1, (up_n (by omega)).trans h6⟩, ⟨f2, (up_n (by omega)).trans h7⟩, ⟨f3, (up_n (by omega)).trans h8⟩, ke, kk, kf, so, si, el, ⟨(up_n (by omega)).trans g1, (up_n (by omega)).trans g2, (up_n (by omega)).trans g3, (up_n (by omega)).trans g4, (up_n (by omega)).trans g5, (up_n (by omega)).trans g6⟩, hs⟩, fun j hj => (up_n (by omega)).trans (hf j hj)⟩
theorem MS.flag {pc ra re fm se th : Int} (h : MS w0 w D n mi hi Di ni mj sh E) (hR : ∃ S, w 56 = eI 48 S ∧ Row S Di ni mj) : MS w0 (up w 53 (mOb 1 pc ra re fm se th)) D n mi 1 Di ni mj sh E := by
  obtain ⟨⟨-, ⟨S, h2, hR2⟩, ⟨Sm, h3⟩, -, ⟨Sw, h5⟩, ⟨f1, h6⟩, ⟨f2, h7⟩, ⟨f3, h8⟩, ke, kk, kf, so, si, el, ⟨g1, g2, g3, g4, g5, g6⟩, hs⟩, hf⟩ := h
  obtain ⟨Si, h4, hRi⟩ := hR
  exact ⟨⟨⟨_, _, _, _, _, _, up_s⟩, ⟨S, (up_n (by omega)).trans h2, hR2⟩, ⟨Sm, (up_n (by omega)).trans h3⟩, ⟨Si, (up_n (by omega)).trans h4, fun _ => hRi⟩, ⟨Sw, (up_n (by omega)).trans h5⟩, ⟨f1, (up_n (by omega)).trans h6⟩, ⟨f2, (up_n (by omega)).trans h7⟩, ⟨f3, (up_n (by omega)).trans h8⟩, ke, kk, kf, so, si, el, ⟨(up_n (by omega)).trans g1, (up_n (by omega)).trans g2, (up_n (by omega)).trans g3, (up_n (by omega)).trans g4, (up_n (by omega)).trans g5, (up_n (by omega)).trans g6⟩, hs⟩, fun j hj => (up_n (by omega)).trans (hf j hj)⟩
/-- the shelves' rows are written -/
theorem MS.she {w' : AW} {sh' E' : Int → Int → Int} {ke kk kf so si el : Int → Int} (h : MS w0 w D n mi hi Di ni mj sh E) (hw : w' 61 = eI 8 ke ∧ w' 62 = eI 8 kk ∧ w' 63 = eI 8 kf ∧ w' 64 = eI 8 so ∧ w' 65 = eI 8 si ∧ w' 66 = eI 800 el) (hs : ShRel sh' E' ke kk kf so si el) (ho : ∀ j, (j < 61 ∨ 67 ≤ j) → w' j = w j) : MS w0 w' D n mi hi Di ni mj sh' E' := by
  obtain ⟨⟨⟨_, _, _, _, _, _, h1⟩, ⟨S, h2, hR⟩, ⟨Sm, h3⟩, ⟨Si, h4, hRi⟩, ⟨Sw, h5⟩, ⟨f1, h6⟩, ⟨f2, h7⟩, ⟨f3, h8⟩, -⟩, hf⟩ := h
  exact ⟨⟨⟨_, _, _, _, _, _, (ho _ (by omega)).trans h1⟩, ⟨S, (ho _ (by omega)).trans h2, hR⟩, ⟨Sm, (ho _ (by omega)).trans h3⟩, ⟨Si, (ho _ (by omega)).trans h4, hRi⟩, ⟨Sw, (ho _ (by omega)).trans h5⟩, ⟨f1, (ho _ (by omega)).trans h6⟩, ⟨f2, (ho _ (by omega)).trans h7⟩, ⟨f3, (ho _ (by omega)).trans h8⟩, ke, kk, kf, so, si, el, hw, hs⟩, fun j hj => (ho j (by omega)).trans (hf j hj)⟩
end MSL
/-- what a call of the reference answers, and its state then -/
def jM (w0 : AW) (v : Int) (D : Int → Int → Int) (n mi hi : Int) (Di : Int → Int → Int) (ni mj : Int) (sh E : Int → Int → Int) : Option AV → AW → Prop := fun r w' => r = some (aI v) ∧ MS w0 w' D n mi hi Di ni mj sh E
def jML (w0 : AW) (v : Int) (D : Int → Int → Int) (n mi hi : Int) (Di : Int → Int → Int) (ni mj : Int) (sh E : Int → Int → Int) : Option AV → AW → Prop := fun r w' => r = some (aL v) ∧ MS w0 w' D n mi hi Di ni mj sh E
theorem jM_of {w0 w : AW} {v v' : Int} {D Di : Int → Int → Int} {n mi hi ni mj : Int} {sh E : Int → Int → Int} (hv : v = v') (h : MS w0 w D n mi hi Di ni mj sh E) : jM w0 v' D n mi hi Di ni mj sh E (some (aI v)) w := by subst hv; exact ⟨rfl, h⟩
theorem jML_of {w0 w : AW} {v v' : Int} {D Di : Int → Int → Int} {n mi hi ni mj : Int} {sh E : Int → Int → Int} (hv : v = v') (h : MS w0 w D n mi hi Di ni mj sh E) : jML w0 v' D n mi hi Di ni mj sh E (some (aL v)) w := by subst hv; exact ⟨rfl, h⟩
/-- a row that is written in place -/
def jR (w : AW) (q : Nat) (v : Int) (D : Int → Int → Int) (n mi : Int) : Option AV → AW → Prop := fun r w' => r = some (aI v) ∧ ∃ S, Row S D n mi ∧ w' = up w q (eI 48 S)
theorem jR_of {w : AW} {q : Nat} {v v' : Int} {D : Int → Int → Int} {n mi : Int} {S : Int → Int} (hv : v = v') (h : Row S D n mi) : jR w q v' D n mi (some (aI v)) (up w q (eI 48 S)) := by subst hv; exact ⟨rfl, S, h, rfl⟩
