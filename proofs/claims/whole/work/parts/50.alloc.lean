theorem xArI : Cond.arrayClass .int ∈ gT := gt_1 173 (by decide +kernel) (by decide +kernel)
theorem xArL : Cond.arrayClass .long ∈ gT := gt_1 1384 (by decide +kernel) (by decide +kernel)
section JAL
variable {l : Launch} {M Mc : MI} {ad : Nat → Nat} {G : JG} {X : List (Nat × Nat × (Int → Int))} {al : Bool} {Z : JZ} {N N' cells slots pc pc' : Nat} {L : List (Option AV)} {st rest as : List AV} {w : AW} {Φ : Option AV → AW → Prop}
theorem j_callI {idx n q : Nat} (hd : JD M pc (.invokespecial idx) 3) (hp : pc + 3 = pc') (hs : SiteI M.1.cls idx Mc n) (hc : Call l Mc al N N' (aR q :: as) w Φ) (hn : as.length = n) (hst : as.reverse ++ (aR q :: rest) = st) (hr : rmB M Mc cells slots rest = true) (kk : ∀ (r : Option AV) (w' : AW), Φ r w' → J l M ad G X al Z N' (cells + Mc.2.2.2.2.cells) (slots + Mc.2.2.2.2.slots) pc' L (r.toList ++ rest) w') : J l M ad G X al Z N cells slots pc L st w := by
  subst hp; subst hst
  simp only [Bool.and_eq_true, decide_eq_true_eq] at hr
  obtain ⟨hws, hdo, hini, hret⟩ := hs
  intro p e s m args below meth c A H locs ls C P D S sz hl
  have hts := fun w hw => C.1.2.2.2.2 w (hws w hw)
  rw [jst_rev]
  have cb := callB_of (R := M.2.2.2.2) n C.1.2.2.2.2 (jws_good (hws _ (by simp))) rfl rfl rfl (hts _ (by simp)) (hts (.methodLink M.1.cls idx Mc.1) (by simp)) hdo ⟨hr.1.1.1.1, hr.1.1.1.2⟩
  rw [hret] at cb
  refine j_back (va_runI (b := ad q) (As := as.map (jv ad)) (rest := rest.map (jv ad)) C.1 (hc G ad H.size) ⟨cb, hini, hts _ (by simp)⟩ ⟨jPc_blind, j_pre C P D S sz (aR q :: as)⟩ rfl (by rw [List.length_map]; exact hn) hl.1 rfl (lv_room (by rw [jcat_sum]; exact hr.1.1.2)) hd ⟨hr.1.2, hr.2⟩) S (j_afree D S C.2.2.2.2.2.1) (fun r w' H1 locs1 hΦ hP hD hz hS => ?_)
  rw [jrt]
  exact kk r w' hΦ p e s m args below meth c A H1 locs1 ls C hP hD hS hz hl
theorem j_callIN {idx n q : Nat} (hd : JD M pc (.invokespecial idx) 3) (hp : pc + 3 = pc') (hs : SiteIN M.1.cls idx Mc n) (hc : Call l Mc al N N' (aR q :: as) w Φ) (hn : as.length = n) (hst : as.reverse ++ (aR q :: rest) = st) (hr : rmB M Mc cells slots rest = true) (kk : ∀ (r : Option AV) (w' : AW), Φ r w' → J l M ad G X al Z N' (cells + Mc.2.2.2.2.cells) (slots + Mc.2.2.2.2.slots) pc' L (r.toList ++ rest) w') : J l M ad G X al Z N cells slots pc L st w := by
  subst hp; subst hst
  simp only [Bool.and_eq_true, decide_eq_true_eq] at hr
  obtain ⟨hws, hdo, hini, hret, host, hnest⟩ := hs
  intro p e s m args below meth c A H locs ls C P D S sz hl
  have hts := fun w hw => C.1.2.2.2.2 w (hws w hw)
  rw [jst_rev]
  have cb := va_cnB (R := M.2.2.2.2) n C.1.2.2.2.2 (jws_good (Mc := Mc) (hws _ (by simp))) rfl rfl rfl (C.2.2.2.2.1.2.1 _ hnest) (hts _ (by simp)) hdo ⟨hr.1.1.1.1, hr.1.1.1.2⟩
  rw [hret] at cb
  refine j_back (va_runIN (b := ad q) (As := as.map (jv ad)) (rest := rest.map (jv ad)) C.1 (hc G ad H.size) ⟨cb, hini, hts _ (by simp)⟩ ⟨jPc_blind, j_pre C P D S sz (aR q :: as)⟩ rfl (by rw [List.length_map]; exact hn) hl.1 rfl (lv_room (by rw [jcat_sum]; exact hr.1.1.2)) hd ⟨hr.1.2, hr.2⟩) S (j_afree D S C.2.2.2.2.2.1) (fun r w' H1 locs1 hΦ hP hD hz hS => ?_)
  rw [jrt]
  exact kk r w' hΦ p e s m args below meth c A H1 locs1 ls C hP hD hS hz hl
theorem j_alloc {p : Program} {s : State} {m : MethodId} {args : Array Value} {meth : Method} {c : Code} {A : Nat → Prop} {H H1 : Heap} {locs : List Loc} {e9 : AE} (C : JX M ad G X true p s m args meth c A) (P : jP G ad w N H) (D : jD G ad w N A) (S : va_S A s.heap H locs) (hH : H.size = ad N) (hN : N + 1 < 900) (z1 : H1.size = H.size + 1) (o1 : ∀ q : Nat, q < H.size → H1[q]? = H[q]?) (e1 : va_at (G.1, G.2.1) classes (ad N, je G.2.2 ad e9) H1) :
    jP G ad (up w N e9) (N + 1) H1 ∧ jD G ad (up w N e9) (N + 1) A ∧ va_S A s.heap H1 locs ∧ H1.size = ad (N + 1) := by
  have hk9 := C.2.2.2.2.2.2.2.2 rfl
  have hk : ∀ (k : Nat) (x : Nat × va_E), (jw G.2.2 ad w N)[k]? = some x → H1[x.1]? = H[x.1]? := fun k x hx => o1 x.1 (vx_lt P hx)
  refine ⟨?_, ?_, ⟨Nat.le_trans S.1 (by omega), fun x h1 h2 => (o1 x (Nat.lt_of_lt_of_le h1 S.1)).trans (S.2.1 x h1 h2), S.2.2⟩, by rw [z1, hH, hk9 (N + 1) (by omega), hk9 N (by omega)]; omega⟩
  · show va_P _ _ (jw G.2.2 ad (up w N e9) (N + 1)) H1
    rw [← jw_push]
    refine (P.kept hk).app (fun k x hx => ?_)
    have hz : k < 1 := (List.getElem?_eq_some_iff.mp hx).1
    rw [show k = 0 by omega] at hx
    cases hx
    exact e1
  · show va_D _ (jw G.2.2 ad (up w N e9) (N + 1))
    rw [← jw_push]
    exact D.push P hH.symm (C.2.2.2.2.2.1 _ (by rw [← hH]; exact S.1))
theorem jn_nn {n : Int} (hn : 0 ≤ n ∧ n ≤ 100000) : ¬ Int32.ofInt n < 0 ∧ (Int32.ofInt n).toNatClampNeg = n.toNat := by
  have ex : (Int32.ofInt n).toInt = n := Int32.toInt_ofInt_of_le (by omega) (by omega)
  refine ⟨fun q => ?_, by show (Int32.ofInt n).toInt.toNat = _; rw [ex]⟩
  rw [Int32.lt_iff_toInt_lt, ex] at q
  have : (0 : Int32).toInt = 0 := rfl
  omega
theorem j_newaI {n : Int} (n9 : Nat) (hd : JD M pc (.newarray .int) 2) (hp : pc + 2 = pc') (hn : 0 ≤ n ∧ n ≤ 100000) (hn9 : n.toNat = n9) (hN : N + 1 < 900) (hr : cells + 1 ≤ M.2.2.2.2.cells ∧ slots + n9 ≤ M.2.2.2.2.slots) (kk : J l M ad G X true Z (N + 1) (cells + 1) (slots + n9) pc' L (aR N :: st) (up w N (eI n9 (fun _ => 0)))) : J l M ad G X true Z N cells slots pc L (aI n :: st) w := by
  subst hp; subst hn9
  intro p e s m args below meth c A H locs ls C P D S sz hl
  have hH := sz rfl
  obtain ⟨hnn, hn2⟩ := jn_nn hn
  refine va_newaK (atype := .int) (h := ad N) C.1.1 C.1.2.1 (C.1.2.2.2.2 (.arrayClass .int) xArI) rfl hd rfl hnn hn2 (by show n.toNat * 4 ≤ 536870912; omega) hr.1 hr.2 hH fun H1 cA e1 z1 o1 hAr hNm => ?_
  have hcA : cA = G.2.2 0 := Option.some.inj (hNm.symm.trans (C.2.2.2.2.1.1.2 0 (G.2.2 0, .int) rfl).2)
  rw [hcA] at e1
  obtain ⟨P1, D1, S1, hz⟩ := j_alloc (e9 := eI n.toNat (fun _ => 0)) C P D S hH hN (by rw [z1, hH]) (by rw [hH]; exact o1) e1
  exact kk p e s m args below meth c A H1 locs ls C P1 D1 S1 (fun _ => hz) hl
theorem j_newaL {n : Int} (n9 : Nat) (hd : JD M pc (.newarray .long) 2) (hp : pc + 2 = pc') (hn : 0 ≤ n ∧ n ≤ 100000) (hn9 : n.toNat = n9) (hN : N + 1 < 900) (hr : cells + 1 ≤ M.2.2.2.2.cells ∧ slots + n9 ≤ M.2.2.2.2.slots) (kk : J l M ad G X true Z (N + 1) (cells + 1) (slots + n9) pc' L (aR N :: st) (up w N (eL n9 (fun _ => 0)))) : J l M ad G X true Z N cells slots pc L (aI n :: st) w := by
  subst hp; subst hn9
  intro p e s m args below meth c A H locs ls C P D S sz hl
  have hH := sz rfl
  obtain ⟨hnn, hn2⟩ := jn_nn hn
  refine va_newaK (atype := .long) (h := ad N) C.1.1 C.1.2.1 (C.1.2.2.2.2 (.arrayClass .long) xArL) rfl hd rfl hnn hn2 (by show n.toNat * 8 ≤ 536870912; omega) hr.1 hr.2 hH fun H1 cA e1 z1 o1 hAr hNm => ?_
  have hcA : cA = G.2.2 1 := Option.some.inj (hNm.symm.trans (C.2.2.2.2.1.1.2 1 (G.2.2 1, .long) rfl).2)
  rw [hcA] at e1
  obtain ⟨P1, D1, S1, hz⟩ := j_alloc (e9 := eL n.toNat (fun _ => 0)) C P D S hH hN (by rw [z1, hH]) (by rw [hH]; exact o1) e1
  exact kk p e s m args below meth c A H1 locs ls C P1 D1 S1 (fun _ => hz) hl
theorem j_newq {n : Int} {idx t : Nat} {Cn : String} (n9 : Nat) (hd : JD M pc (.anewarray idx) 3) (hp : pc + 3 = pc') (ht : (jtys G.2.2)[t]? = some (G.2.2 t, .object Cn)) (hlk : Cond.classLink M.1.cls idx Cn ∈ gT) (hao : ∀ s, KS G s → va_AO Cn s) (hn : 0 ≤ n ∧ n ≤ 100000) (hn9 : n.toNat = n9) (hN : N + 1 < 900) (hr : cells + 1 ≤ M.2.2.2.2.cells ∧ slots + n9 ≤ M.2.2.2.2.slots) (kk : J l M ad G X true Z (N + 1) (cells + 1) (slots + n9) pc' L (aR N :: st) (up w N (eR t n9 (fun _ => none)))) : J l M ad G X true Z N cells slots pc L (aI n :: st) w := by
  subst hp; subst hn9
  intro p e s m args below meth c A H locs ls C P D S sz hl
  have hH := sz rfl
  obtain ⟨hnn, hn2⟩ := jn_nn hn
  refine W.anew C.1.1 C.1.2.1 C.1.2.2.2.1 (C.1.2.2.2.2 _ hlk) (va_AO.use (hao s C.2.2.2.2.1)) rfl hd rfl hnn (by rw [hn2]; omega) hr.1 (by rw [hn2]; exact hr.2) fun cA kA comp f1 f2 f3 f4 => ?_
  obtain ⟨kA9, comp9, g1, g2, g3, g4⟩ := (C.2.2.2.2.1.1.2 t _ ht).2
  have hcA : cA = G.2.2 t := Option.some.inj (f1.symm.trans g4)
  rw [hn2]
  generalize hH1 : H.push ({ cls := cA, slots := Array.replicate n.toNat .null, vm := .none } : Cell) = H1
  have z1 : H1.size = H.size + 1 := by rw [← hH1, Array.size_push]
  have e1 : H1[H.size]? = some (arrV cA n.toNat (fun _ => .null)) := by rw [← hH1, Array.getElem?_push_size, ← arrV_new]
  have o1 : ∀ q : Nat, q < H.size → H1[q]? = H[q]? := fun q hq => by rw [← hH1, Array.getElem?_push, if_neg (Nat.ne_of_lt hq)]
  rw [hcA, hH] at e1
  rw [hH]
  obtain ⟨P1, D1, S1, hz⟩ := j_alloc (e9 := eR t n.toNat (fun _ => none)) C P D S hH hN z1 o1 e1
  exact kk p e s m args below meth c A H1 locs ls C P1 D1 S1 (fun _ => hz) hl
theorem j_new {idx ci Nf : Nat} {Cn : String} {T : u_T} (fs : List AV) (hd : JD M pc (.new idx) 3) (hp : pc + 3 = pc') (hci : classes[ci]? = some (Cn, T, Nf)) (hlk : Cond.classLink M.1.cls idx Cn ∈ gT) (hin : ∀ w ∈ u_ws Cn T Nf, w ∈ gT) (hit : Cond.instantiable Cn Nf ∈ gT ∧ Cond.initialized Cn ∈ gT) (ty : Nat → FieldType) (hty : ∀ k, k < Nf → parseFieldDescriptor (T k).2.2.1 = some (ty k)) (hfs : ∀ (ad : Nat → Nat) (j : Nat), j < Nf → defaultValue (ty j) = vp_V (fs.map (jv ad)) j) (hN : N + 1 < 900) (hr : cells + 1 ≤ M.2.2.2.2.cells ∧ slots + Nf ≤ M.2.2.2.2.slots)
    (kk : J l M ad G X true Z (N + 1) (cells + 1) (slots + Nf) pc' L (aR N :: st) (up w N (eO ci fs))) : J l M ad G X true Z N cells slots pc L st w := by
  subst hp
  intro p e s m args below meth c A H locs ls C P D S sz hl
  have hH := sz rfl
  have hKn := C.2.2.2.2.1.1.1 ci _ hci
  refine W.newcK (h := ad N) C.1.1 C.1.2.1 C.1.2.2.2.1 (C.1.2.2.2.2 _ hlk) (C.1.2.2.2.2 _ hit.1) (C.1.2.2.2.2 _ hit.2) rfl hd hr.1 hr.2 hKn.2.1 hH fun H1 kC hkC e1 z1 o1 => ?_
  obtain ⟨P1, D1, S1, hz⟩ := j_alloc (e9 := eO ci fs) C P D S hH hN (by rw [z1, hH]) (by rw [hH]; exact o1) ⟨_, hci, (u_born ty C.1.2.2.2.2 hin hKn hkC e1 hty).to (hfs ad)⟩
  exact kk p e s m args below meth c A H1 locs ls C P1 D1 S1 (fun _ => hz) hl
def upr (f : Int → Option Nat) (k : Int) (x : Nat) : Int → Option Nat := fun j => if j = k then some x else f j
theorem j_aast {q qk t ci n : Nat} {f : Int → Option Nat} {i : Int} {fs : List AV} {En : String} {r : vw_C} (hd : JD M pc .aastore 1) (hp : pc + 1 = pc') (hq : q < N) (hw : w q = eR t n f) (ht : (jtys G.2.2)[t]? = some (G.2.2 t, .object En)) (hqk : qk < N) (hwk : w qk = eO ci fs) (hc : classes[ci]? = some r) (hca : r.1 = En ∨ Cond.castable r.1 En ∈ fT) (hi : 0 ≤ i ∧ i < n) (hn : n ≤ 100000) (kk : J l M ad G X al Z N cells slots pc' L st (up w q (eR t n (upr f i qk)))) : J l M ad G X al Z N cells slots pc L (aR qk :: aI i :: aR q :: st) w := by
  subst hp
  intro p e s m args below meth c A H locs ls C P D S sz hl
  obtain ⟨h1, h2⟩ := ix_in hi hn
  have he := jw_get' (ca := G.2.2) (ad := ad) hq hw
  have hK := C.2.2.2.2.1.1
  have hlt : (Int32.ofInt i).toNatClampNeg < n := Nat.not_le.mp fun q => h1 (Or.inr q)
  have h0 : ¬ Int32.ofInt i < 0 := fun q => h1 (Or.inl q)
  obtain ⟨r', hr', cellV, g1, g2, g3, -⟩ := P qk _ (jw_get' (ca := G.2.2) (ad := ad) hqk hwk)
  have hcls := (hK.1 ci r hc).2
  obtain ⟨kA, comp, k1, k2, k3, -⟩ := (hK.2 t _ ht).2
  obtain ⟨kE, hkE, -⟩ := Vm.findClass_spec k3
  obtain ⟨kC, hkC, -⟩ := hcls.2
  have f3 : s.vm.assignable (G.1 ci) comp = true := by
    rcases hca with hca | hca
    · have hcomp : comp = G.1 ci := Option.some.inj (k3.symm.trans (by rw [← hca]; exact hcls.1))
      rw [hcomp]; exact va_assign hcls
    · obtain ⟨c0, t1, f1, f2, f3⟩ := Cond.castable_spec (va_Nw.use (A := args) (face_tab (List.mem_filter.mp hca).2) (C.2.2.2.2.1.2.2.1 _ hca))
      cases hcls.1.symm.trans f1
      cases k3.symm.trans f2
      exact f3
  refine W.aast (rest := st.map (jv ad)) C.1.1 C.1.2.1 (P q _ he) (fun q h => by cases h) (fun h => by cases h) k1 k2 rfl hkE ⟨h0, by show _ < (arrV _ _ _).slots.size; rw [arrV_size]; exact hlt⟩ g1 (fun q h => by rw [g3] at h; cases h) (by rw [g2]; exact hkC) (by rw [g2]; exact f3) rfl rfl hd fun H1 e z oq => ?_
  have hP' : va_P (G.1, G.2.1) classes ((jw G.2.2 ad w N).set q (ad q, je G.2.2 ad (eR t n (upr f i qk)))) H1 := by
    refine P.set D he ?_ oq
    show H1[ad q]? = some (vp_cell _ _)
    rw [e]
    rw [vp_cell_q, vp_cell_q, arrV_store]
    congr 2
    funext j
    rw [h2]
    by_cases hj : j = i.toNat
    · subst hj
      simp [updV, upr, va_rf, Int.toNat_of_nonneg hi.1]
    · have hne : (j : Int) ≠ i := by omega
      simp [updV, hj, upr, hne]
  have hD' := D.set (e := je G.2.2 ad (eR t n (upr f i qk))) he
  rw [jw_set] at hP' hD'
  exact kk p _ s m args below meth c A H1 _ ls C hP' hD' (S.put z oq (D.2 q _ he)) (fun h => by rw [z]; exact sz h) hl
theorem j_extR {q t n : Nat} {f g : Int → Option Nat} (hq : q < N) (hw : w q = eR t n f) (h : ∀ i, 0 ≤ i → i < (n : Int) → f i = g i) (k : J l M ad G X al Z N cells slots pc L st (up w q (eR t n g))) : J l M ad G X al Z N cells slots pc L st w := by
  intro p e s m args below meth c A H locs ls C P D S sz hl
  have he := jw_get' (ca := G.2.2) (ad := ad) hq hw
  have hcell : va_at (G.1, G.2.1) classes (ad q, je G.2.2 ad (eR t n g)) H := by
    have h0 := P q _ he
    show H[ad q]? = some (vp_cell (G.2.2 t) (n, .inr (.inr (.inr (.inr (fun j : Nat => (g j).map ad))))))
    have h1 : H[ad q]? = some (vp_cell (G.2.2 t) (n, .inr (.inr (.inr (.inr (fun j : Nat => (f j).map ad)))))) := h0
    rw [h1, vp_cell_q, vp_cell_q]
    congr 1
    unfold arrV
    congr 2
    funext j
    show va_rf ((f (j.val : Int)).map ad) = va_rf ((g (j.val : Int)).map ad)
    rw [h (j.val : Int) (by omega) (by omega)]
  have P' := P.set (e := je G.2.2 ad (eR t n g)) D he hcell (fun _ _ => rfl)
  have D' := D.set (e := je G.2.2 ad (eR t n g)) he
  rw [jw_set] at P' D'
  exact k p e s m args below meth c A H locs ls C P' D' S sz hl
/-- the addresses are no longer minded -/
theorem j_al (k : J l M ad G X false Z N cells slots pc L st w) : J l M ad G X true Z N cells slots pc L st w := by
  intro p e s m args below meth c A H locs ls C P D S sz hl
  exact k p e s m args below meth c A H locs ls ⟨C.1, C.2.1, C.2.2.1, C.2.2.2.1, C.2.2.2.2.1, C.2.2.2.2.2.1, C.2.2.2.2.2.2.1, C.2.2.2.2.2.2.2.1, fun h => by cases h⟩ P D S (fun h => by cases h) hl
end JAL
