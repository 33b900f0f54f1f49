/-! THE CLAIM OUT OF ONE WALK OF THE LAW'S BODY. Your part is whole_start (and what it stands on); all else here is the same for every law, but numbers. -/
def R_law : String := "RattleAtFiftyLaw"
def lw_P (b : Addr) (xs : List Int32) (args : Array Value) (s : State) : Prop := args = #[.ref b] ∧ s.IntsAt b xs ∧ xs.length ≤ 3072 ∧ (Jvm.Cond.and given_1 narrow_1).before args s = true
def lw_Q (_ : Array Value) (s : State) (o : Outcome) (t : State) : Prop := o = .returned (some (.int 1)) ∧ Framed s o t [] 601024 7293034
def lw_Z (below : List Frame) (a : Array Value) (s : State) : State → Prop := fun t => ∃ o, t.status = .running ∧ Ended t below o ∧ lw_Q a s o t
/-- the law's own end, with 1 on the stack, nothing written that was there before, its room as the claim has it -/
theorem lw_ret {p : Program} {l : Launch} {e : Env} {s : State} {m : MethodId} {below : List Frame} {meth : Method} {c : Code} {b : Nat} (hx : p.tables.exec = Jvm.exec) (hb : c.code = code) (hr : meth.sig.returnType = ret) (hlocks : meth.locks = false) {pc : Nat} {H : Heap} {ls : Array Slot} (hdg : decode code pc = .ok (.ireturn, 1)) : W p l e room_1 s m #[Value.ref b] below meth c H [] 601024 7293034 (lw_Z below #[Value.ref b] s) (F0 m pc ls [.int 1]) := by
  intro T hT X
  obtain ⟨fs, hret, hrun, hended, hW, hframe⟩ := X.leave (v := some (.int 1)) (hlocks := hlocks) (fun h => by rw [hr] at h; cases h)
  have hmeth' : T.vm.method? m = some meth := X.method'
  refine ⟨T.setFrames fs, ?_, .returned (some (.int 1)), hrun, hended, rfl, ⟨_, rfl⟩, hW, hframe⟩
  jvm_step X.here [X.here.top, hx, hb, hdg, hmeth', hr, ret, narrow_b1]
  (try refine ⟨rfl, ?_⟩); (try refine ⟨rfl, ?_⟩)
  first | (intro acts; rw [hret _ acts rfl rfl rfl]) | rw [hret _ _ rfl rfl rfl]
  exact Steps.refl _
/-- what holds at the law's entry: the machine, the code, the tables' words (any of lw_tbl by 'hts w (by decide +kernel)'), the script of L ints xs at the cell b, what the Statement gives of the start (any of its parts by flat_of_before) -/
def lw_At (p : Program) (s : State) (m : MethodId) (meth : Method) (c : Code) (b L : Nat) (xs : Nat → Int32) : Prop :=
  p.tables.exec = Jvm.exec ∧ c.code = code ∧ meth.sig.returnType = ret ∧ c.maxLocals = 8 ∧ s.vm.findClass R_law = some m.cls ∧ (∀ w ∈ lw_tbl, w.before #[Value.ref b] s = true) ∧ va_X b L xs s s.heap ∧ b < s.heap.size ∧ meth.locks = false ∧ (Jvm.Cond.and given_1 narrow_1).before #[Value.ref b] s = true ∧ s.methodNamed? x = some m ∧ meth.name = x.name
def zLaw : JZ := fun below args s A t => (∀ q, A q → s.heap.size ≤ q) → (∃ b, args = #[Value.ref b]) → lw_Z below args s t
theorem j_lawEnd {l : Launch} {ad : Nat → Nat} {G : JG} {X : List (Nat × Nat × (Int → Int))} (cells slots : Nat) (L : List (Option AV)) (w : AW) (h1 : cells ≤ 601024) (h2 : slots ≤ 7293034) : J l m_Law_law ad G X false zLaw 68 cells slots 1715 L [aI 1] w := by
  intro p e s m args below meth c A H locs ls C P D S sz hl
  by_cases hp : (∀ q, A q → s.heap.size ≤ q) ∧ ∃ b, args = #[Value.ref b]
  · obtain ⟨hA, b, rfl⟩ := hp
    intro T hT X9
    obtain ⟨t, a1, b1⟩ := va_forget (fun q hq => hA _ (S.2.2 q hq)) (lw_ret (pc := 1715) (H := H) (ls := ls) C.1.1 C.1.2.1 C.2.1 C.2.2.1 dL_law_1715) T hT (stand_widen X9 h1 h2)
    exact ⟨t, a1, fun _ _ => b1⟩
  · intro T hT X9
    exact ⟨_, Steps.refl _, fun ha hb => absurd ⟨ha, hb⟩ hp⟩
theorem ev_eq {args : Array Value} {s : State} {t : Term} {v : Int32} (h : (Cond.eq t (.int v)).before args s = true) : t.eval args s none [] s = some (.int v) := by
  obtain ⟨w, h1, h2⟩ := Cond.eq_one (show (Cond.eq t (.int v)).holds args s none s [] = true from h)
  have e : (Term.int v).eval args s none [] s = some (.int v) := rfl
  cases h2.symm.trans e
  exact h1
theorem st_cls {args : Array Value} {s : State} (hg : ∀ w ∈ gT, w.before args s = true) (c : Nat) (hc : c < 12) : ∃ (cC : ClassId) (iS : Nat → Nat), ∀ q, classes[c]? = some q → u_Kn s q.1 q.2.1 q.2.2 cC iS := by
  rcases (show c = 0 ∨ c = 1 ∨ c = 2 ∨ c = 3 ∨ c = 4 ∨ c = 5 ∨ c = 6 ∨ c = 7 ∨ c = 8 ∨ c = 9 ∨ c = 10 ∨ c = 11 by omega) with rfl | rfl | rfl | rfl | rfl | rfl | rfl | rfl | rfl | rfl | rfl | rfl
  · obtain ⟨cC, iS, h⟩ := u_known hg cin_0 (hg _ cit_0.1)
    exact ⟨cC, iS, fun q hq => by cases hq; exact h⟩
  · obtain ⟨cC, iS, h⟩ := u_known hg cin_1 (hg _ cit_1.1)
    exact ⟨cC, iS, fun q hq => by cases hq; exact h⟩
  · obtain ⟨cC, iS, h⟩ := u_known hg cin_2 (hg _ cit_2.1)
    exact ⟨cC, iS, fun q hq => by cases hq; exact h⟩
  · obtain ⟨cC, iS, h⟩ := u_known hg cin_3 (hg _ cit_3.1)
    exact ⟨cC, iS, fun q hq => by cases hq; exact h⟩
  · obtain ⟨cC, iS, h⟩ := u_known hg cin_4 (hg _ cit_4.1)
    exact ⟨cC, iS, fun q hq => by cases hq; exact h⟩
  · obtain ⟨cC, iS, h⟩ := u_known hg cin_5 (hg _ cit_5.1)
    exact ⟨cC, iS, fun q hq => by cases hq; exact h⟩
  · obtain ⟨cC, iS, h⟩ := u_known hg cin_6 (hg _ cit_6.1)
    exact ⟨cC, iS, fun q hq => by cases hq; exact h⟩
  · obtain ⟨cC, iS, h⟩ := u_known hg cin_7 (hg _ cit_7.1)
    exact ⟨cC, iS, fun q hq => by cases hq; exact h⟩
  · obtain ⟨cC, iS, h⟩ := u_known hg cin_8 (hg _ cit_8.1)
    exact ⟨cC, iS, fun q hq => by cases hq; exact h⟩
  · obtain ⟨cC, iS, h⟩ := u_known hg cin_9 (hg _ cit_9.1)
    exact ⟨cC, iS, fun q hq => by cases hq; exact h⟩
  · obtain ⟨cC, iS, h⟩ := u_known hg cin_10 (hg _ cit_10.1)
    exact ⟨cC, iS, fun q hq => by cases hq; exact h⟩
  · obtain ⟨cC, iS, h⟩ := u_known hg cin_11 (hg _ cit_11.1)
    exact ⟨cC, iS, fun q hq => by cases hq; exact h⟩
theorem st_KS {args : Array Value} {s : State} (hts : ∀ w ∈ lw_tbl, w.before args s = true) (hs : ∀ c ∈ flatC (Jvm.Cond.and given_1 narrow_1), c.before args s = true) : ∃ G : JG, KS G s := by
  have hg : ∀ w ∈ gT, w.before args s = true := fun w hw => hts w (gT_in hw)
  have hcl : ∀ c : Nat, ∃ (cC : ClassId) (iS : Nat → Nat), ∀ q, classes[c]? = some q → u_Kn s q.1 q.2.1 q.2.2 cC iS := by
    intro c
    by_cases hc : c < 12
    · exact st_cls hg c hc
    · obtain ⟨c0, i0, -⟩ := st_cls hg 0 (by omega)
      exact ⟨c0, i0, fun q hq => by
        have := (List.getElem?_eq_some_iff.mp hq).1
        exact absurd this hc⟩
  obtain ⟨a0, k0, p0, e01, e02, e03⟩ := Cond.arrayClass_spec (hg _ xArI)
  obtain ⟨a1, k1, p1, e11, e12, e13⟩ := Cond.arrayClass_spec (hg _ xArL)
  have hao : ∀ w ∈ ([.arrayOver (.object "RattleAtFifty$Part"), .arrayOver (.object "RattleAtFifty$Shelf")] : List Cond), w ∈ lw_tbl := by
    intro w hw
    rcases List.mem_cons.mp hw with rfl | hw
    · exact List.mem_of_getElem? (i := 72) (by decide +kernel)
    · rw [List.mem_singleton.mp hw]
      exact List.mem_of_getElem? (i := 175) (by decide +kernel)
  have ho2 := hts _ (hao _ List.mem_cons_self)
  have ho3 := hts _ (hao _ (List.mem_cons_of_mem _ List.mem_cons_self))
  obtain ⟨p2, a2, k2, g21, -, g22, g23, g24⟩ := Cond.arrayOver_spec ho2
  obtain ⟨p3, a3, k3, g31, -, g32, g33, g34⟩ := Cond.arrayOver_spec ho3
  refine ⟨(fun c => Classical.choose (hcl c), fun c => Classical.choose (Classical.choose_spec (hcl c)), fun k => match k with | 0 => a0 | 1 => a1 | 2 => a2 | _ => a3), ⟨fun c q hq => Classical.choose_spec (Classical.choose_spec (hcl c)) q hq, fun k q hk => ?_⟩, fun w hw => va_Nw.of (nest_tab (List.mem_filter.mp hw).2) (hts w (List.mem_append_right _ (List.mem_filter.mp hw).1)), fun w hw => va_Nw.of (face_tab (List.mem_filter.mp hw).2) (hts w (List.mem_append_right _ (List.mem_filter.mp hw).1)), va_AO.of ho2, va_AO.of ho3, ?_, ?_, ?_⟩
  · have hlt : k < 4 := (List.getElem?_eq_some_iff.mp hk).1
    rcases (show k = 0 ∨ k = 1 ∨ k = 2 ∨ k = 3 by omega) with rfl | rfl | rfl | rfl
    · cases hk
      exact ⟨fun n z => ⟨fun k h => (by cases h), k0, e02, p0, e03⟩, e01⟩
    · cases hk
      exact ⟨fun n z => ⟨fun k h => (by cases h), k1, e12, p1, e13⟩, e11⟩
    · cases hk
      exact ⟨fun n z => ⟨fun k h => (by cases h), k2, g22, p2, g23⟩, k2, p2, g22, g23, g21, g24⟩
    · cases hk
      exact ⟨fun n z => ⟨fun k h => (by cases h), k3, g32, p3, g33⟩, k3, p3, g32, g33, g31, g34⟩
  · obtain ⟨a, -, -, -, ha, -⟩ := Cond.exactly_spec (hs (Cond.exactly (.string "RattleAtFifty" 331) "java/lang/String") (by decide +kernel))
    exact ⟨a, vk_R.of (hts (.stringRef "RattleAtFifty" 331 "no such shelf") (by decide +kernel)) ha⟩
  · obtain ⟨a, -, -, -, ha, -⟩ := Cond.exactly_spec (hs (Cond.exactly (.string "RattleAtFifty" 341) "java/lang/String") (by decide +kernel))
    exact ⟨a, vk_R.of (hts (.stringRef "RattleAtFifty" 341 "no row, or no such place in it") (by decide +kernel)) ha⟩
  · exact ⟨va_Nc.of (hs (.not (.castable xIS xIA)) (by decide +kernel)), va_Nc.of (hs (.not (.castable xUO xIA)) (by decide +kernel)), va_Nc.of (hs (.not (.castable xUO xIS)) (by decide +kernel))⟩
theorem st_ZS {args : Array Value} {s : State} (hts : ∀ w ∈ lw_tbl, w.before args s = true) (hs : ∀ c ∈ flatC (Jvm.Cond.and given_1 narrow_1), c.before args s = true) {A : Nat → Prop} (hA : ∀ a : Nat, a < s.heap.size → ¬ A a) : ∃ t : Nat, ∀ ad : Nat → Nat, ad 1000 = t → ZS ad A s s.heap := by
  have hel : ∀ j : Nat, j < 4 → (Term.elem (Jvm.Term.static "RattleAtFifty" "MOST_OF_SETTING" "[I") (.int (Int32.ofNat j))).eval args s none [] s = some (.int (Int32.ofInt (mos j))) := by
    intro j hj
    rcases (show j = 0 ∨ j = 1 ∨ j = 2 ∨ j = 3 by omega) with rfl | rfl | rfl | rfl
    · exact ev_eq (hs (Cond.eq (.elem (Jvm.Term.static "RattleAtFifty" "MOST_OF_SETTING" "[I") (.int 0)) (.int 99)) (by decide +kernel))
    · exact ev_eq (hs (Cond.eq (.elem (Jvm.Term.static "RattleAtFifty" "MOST_OF_SETTING" "[I") (.int 1)) (.int 9)) (by decide +kernel))
    · exact ev_eq (hs (Cond.eq (.elem (Jvm.Term.static "RattleAtFifty" "MOST_OF_SETTING" "[I") (.int 2)) (.int 5)) (by decide +kernel))
    · exact ev_eq (hs (Cond.eq (.elem (Jvm.Term.static "RattleAtFifty" "MOST_OF_SETTING" "[I") (.int 3)) (.int 40)) (by decide +kernel))
  obtain ⟨t, ht, hT⟩ := va_Tof (tm := (Jvm.Term.static "RattleAtFifty" "MOST_OF_SETTING" "[I")) (ty := .int) (N := 4) (f := fun j => .int (Int32.ofInt (mos j))) (A := A) (by decide) (hs (.arrayOf (Jvm.Term.static "RattleAtFifty" "MOST_OF_SETTING" "[I") .int) (by decide +kernel)) (ev_eq (hs (Cond.eq (.length (Jvm.Term.static "RattleAtFifty" "MOST_OF_SETTING" "[I")) (.int 4)) (by decide +kernel))) hel hA
  refine ⟨t, fun ad h => ?_⟩
  unfold ZS
  rw [h]
  exact ⟨va_Zof (hts (.laysStatic "RattleAtFifty" "MOST_OF_SETTING" "[I") (by decide +kernel)) (hts (.initialized "RattleAtFifty") (by decide +kernel)) ht hA, hT, vx_Zqof (hts (.laysStatic Bundle.tN "UNASSIGNED_STACK" Bundle.steD) (by decide +kernel)) (hts (.initialized Bundle.tN) (by decide +kernel)) (hs (.isRef (.static Bundle.tN "UNASSIGNED_STACK" Bundle.steD)) (by decide +kernel)) hA, vx_Zqof (hts (.laysStatic Bundle.tN "SUPPRESSED_SENTINEL" Bundle.listD) (by decide +kernel)) (hts (.initialized Bundle.tN) (by decide +kernel)) (hs (.isRef (.static Bundle.tN "SUPPRESSED_SENTINEL" Bundle.listD)) (by decide +kernel)) hA⟩
/-- from the entry, for every script of at most 3072 ints, the law comes to its end with true -/
theorem whole_start {p : Program} {e : Env} {s : State} {m : MethodId} {below : List Frame} {meth : Method} {c : Code} (l : Launch) (hflags : l.flags = flags0) {b L : Nat} {xs : Nat → Int32} (hL : L ≤ 3072) (C0 : lw_At p s m meth c b L xs) : W p l e room_1 s m #[Value.ref b] below meth c s.heap [] 0 0 (lw_Z below #[Value.ref b] s) (entryFrame m ([Value.ref b] : List Value).toArray 8) := by
  obtain ⟨hx, hb, hr, hml, hown, hts, hX, hbl, hlk, hgv, hnm, hn2⟩ := C0
  have hs := flat_of_before _ hgv
  have hA : ∀ a : Nat, a < s.heap.size → ¬ (s.heap.size ≤ a) := fun a h => Nat.not_le.mpr h
  obtain ⟨G, hK⟩ := st_KS hts hs
  obtain ⟨t, hZ⟩ := st_ZS (A := fun q => s.heap.size ≤ q) hts hs hA
  have hl9 : l.stackTraces = false := by
    unfold Launch.stackTraces
    rw [hflags]
    decide +kernel
  generalize had : (fun k : Nat => if k = 1000 then t else if k = 1001 then b else s.heap.size + k) = ad
  have ad0 : ∀ k, k < 900 → ad k = s.heap.size + k := fun k hk => by rw [← had]; show (if k = 1000 then t else if k = 1001 then b else s.heap.size + k) = _; rw [if_neg (by omega), if_neg (by omega)]
  have ad1 : ad 1000 = t := by rw [← had]; rfl
  have ad2 : ad 1001 = b := by rw [← had]; rfl
  have hXT : va_T .int (ad 1001) L (fun j => .int (Int32.ofInt ((fun z : Int => (xs z.toNat).toInt) j))) (fun q => s.heap.size ≤ q) s s.heap := by
    obtain ⟨cell, h1, h2, h3, h4, h5⟩ := hX
    rw [ad2]
    refine ⟨cell, h1, h2, h3, Nat.le_of_eq h4.symm, by rw [h4], fun j hj => ?_, hA b hbl⟩
    rw [h5 j hj]
    simp
  have hl := lv_entry ([aR 1001].map (jv ad)) (n := 8) (by show 1 ≤ 8; omega)
  have K := law_start (Z := zLaw) (w := fun _ => eI 0 (fun _ => 0)) (ad := ad) (G := G) (X := [(1001, L, fun z : Int => (xs z.toNat).toInt)]) hl9 List.mem_cons_self hL (fun j => ⟨Int32.le_toInt _, by have := Int32.toInt_lt (xs j.toNat); omega⟩) (fun cells slots L w h1 h2 => j_lawEnd cells slots L w h1 h2)
  rw [lg_entry_eq]
  have e1 : ([aR 1001].map (jv ad)) = [Value.ref b] := by show [Value.ref (ad 1001)] = _; rw [ad2]
  rw [e1] at hl
  generalize (lg_sl [Value.ref b] ++ List.replicate (8 - (lg_sl [Value.ref b]).length) Slot.unset).toArray = ls at hl ⊢
  have hl2 : jl ad ls 8 [some (aR 1001), none, none, none, none, none, none, none] := by
    unfold jl
    have e2 : ([some (aR 1001), none, none, none, none, none, none, none] : List (Option AV)) = entL [aR 1001] ++ List.replicate 7 none := rfl
    rw [e2, jll_app, jll_ent, e1]
    exact hl
  have K2 := K p e s m #[Value.ref b] below meth c (fun q => s.heap.size ≤ q) s.heap [] ls ⟨⟨hx, hb, hml, hown, fun w hw => hts w (gT_in hw)⟩, hr, hlk, ⟨hn2, hnm⟩, hK, fun q h => h, hZ ad ad1, fun x hx => by rw [List.mem_singleton.mp hx]; exact hXT, fun _ k hk => by rw [ad0 k hk, ad0 0 (by omega)]; omega⟩ (fun k q hk => by simp [jw] at hk) ⟨fun i j p q hi => by simp [jw] at hi, fun k q hk => by simp [jw] at hk⟩ va_S.rf (fun _ => by rw [ad0 0 (by omega)]; omega) hl2
  intro T hT X9
  obtain ⟨t9, a9, b9⟩ := K2 T hT X9
  exact ⟨t9, a9, b9 (fun q h => h) ⟨b, rfl⟩⟩
-- ===== YOUR PART ENDS =====
set_option maxHeartbeats 4000000 in
theorem lw_walk (l : Launch) (hflags : l.flags = flags0) (b : Addr) (xs : List Int32) : MetFree l x (headSpec (Jvm.Cond.code x code maxLocals ret :: tables_1) room_1) (lw_P b xs) (fun _ _ _ _ _ => True) lw_Q := by
  refine MetFree.of_bodyS (code := code) (maxLocals := maxLocals) (ret := ret) (by decide) ?_ ?_
  · intro args s m h hn
    obtain ⟨meth, c, h1, h2, h3, h4, h5, h6, -, -⟩ := Cond.code_spec hn (atoms_spec (ws := Jvm.Cond.code x code maxLocals ret :: tables_1) h _ List.mem_cons_self)
    exact ⟨meth, c, h1, h2, h3, h4, h5, h6⟩
  · intro p e s m args below meth c s₁ B hml0 hP _
    obtain ⟨rfl, hx, hbd, hgv⟩ := hP
    obtain ⟨scr, harrAt, hlist, hof, hsmall⟩ := hx
    obtain ⟨hcb, hkn, -, -⟩ := State.arrayAt?_spec harrAt
    have hown : s.vm.findClass R_law = some m.cls := findClass_of_methodNamed B.named
    have hts0 : ∀ c ∈ (Jvm.Cond.code x code maxLocals ret :: tables_1), c.before #[Value.ref b] s = true := atoms_spec (ws := Jvm.Cond.code x code maxLocals ret :: tables_1) B.pre
    have hts : ∀ w ∈ lw_tbl, w.before #[Value.ref b] s = true := k2_hts_sels lw_privs (fun w hw => hts0 w (List.mem_cons_of_mem _ hw)) lw_privs_ok
    have hml : c.maxLocals = 8 := B.maxLocals_eq (hts0 _ List.mem_cons_self)
    have X₀ : Stand p l e room_1 s m #[Value.ref b] below meth c s₁ [] 0 0 := Stand.of_body B
    have hh0 : s₁.heap = s.heap := by rw [B.state]; rfl
    have hsz : scr.slots.size = xs.length := by rw [← Array.length_toList, hlist, List.length_map]
    have hval : ∀ j : Nat, j < xs.length → scr.slots[j]? = some (.int (xs.getD j 0)) := fun j hj => by
      rw [← Array.getElem?_toList, hlist]
      simp [hj]
    have hbl : b < s.heap.size := (Array.getElem?_eq_some_iff.mp hcb).1
    have hX : va_X b xs.length (fun j => xs.getD j 0) s s.heap := ⟨scr, hcb, hof, hkn, hsz, hval⟩
    have K : W p l e room_1 s m #[Value.ref b] below meth c s₁.heap [] 0 0 (lw_Z below #[Value.ref b] s) (entryFrame m ([Value.ref b] : List Value).toArray 8) := by
      rw [hh0]
      exact whole_start l hflags hbd ⟨B.exec, B.bytes, B.returns, hml, hown, hts, hX, hbl, B.notSynchronized, hgv, B.named, (name_of_methodNamed B.named B.method).1⟩
    obtain ⟨t, a1, o, b1, b2, b3⟩ := K s₁ rfl X₀
    exact ⟨t, o, a1, b1, b2, b3⟩
theorem lw_pre_spec {args : Array Value} {s : State} (h : (Jvm.Cond.and given_1 narrow_1).before args s = true) (hr : rest_1_c.before args s = true) : ∃ (b : Addr) (xs : List Int32), lw_P b xs args s := by
  have hs := flat_of_before _ h
  have hq := flat_of_before _ hr
  have hc : (Cond.count 1).before args s = true := hs _ (by decide +kernel)
  have harr : (Cond.arrayOf (.arg 0) .int).before args s = true := hs _ (by decide +kernel)
  have hle : (Cond.le (.length (.arg 0)) (.int 3072)).before args s = true := hs _ (by decide +kernel)
  have hlen : (Cond.isInt (.length (.arg 0))).before args s = true := hq _ (by decide +kernel)
  have hall : (Cond.all (.arg 0) (.isInt (.elem (.arg 0) (.index 0)))).before args s = true := hq _ (by decide +kernel)
  obtain ⟨b, xs, hb, hx⟩ := State.ints_of_pre rfl harr hlen hall
  have hsm : xs.length < 2 ^ 31 := hx.choose_spec.2.2.2
  have hev : (Term.length (.arg 0)).eval args s none [] s = some (.int xs.length.toInt32) := hx.length_eval hb
  have hv := Cond.le_ints hev (show (Term.int 3072).eval args s none [] s = some (.int 3072) from rfl)
  have hd : xs.length.toInt32 ≤ 3072 := by
    simpa [Cond.before, Cond.holds, hv] using hle
  have hN : xs.length ≤ 3072 := (Int32.ofNat_le_ofNat hsm (by decide)).mp (show Int32.ofNat xs.length ≤ Int32.ofNat 3072 from hd)
  exact ⟨b, xs, Cond.one_arg hc (show args[0]? = some (.ref b) from hb), hx, hN, h⟩
theorem lw_comes (l : Launch) (hflags : l.flags = flags0) : Comes l x (Jvm.Cond.code x code maxLocals ret :: tables_1) room_1 (fun tb e args s => Calls_1 tb e args s ∧ rest_1 tb e args s ∧ Pre_1 tb e args s)
    (fun _ _ args s o t => lw_Q args s o t) := by
  intro p e ha hc hk s m args below hf hfit hheap happ hpre
  obtain ⟨b, xs, hP⟩ := lw_pre_spec hpre.2.2 hpre.2.1
  obtain ⟨k, o, h1, h2, h3, hQ⟩ := lw_walk l hflags b xs p e ha hc hk s m args below hf ((Spec.applies_iff_loose hf).mp happ).1 hP trivial
  exact ⟨k, o, h1, h2, h3, hQ⟩
theorem lw_frame {s t : State} {o : Outcome} {args : Array Value} (h : Framed s o t [] 601024 7293034) :
    Framed s o t (fieldLocs frame_1_writes args s ++ arrayLocs frame_1_arrays args s ++ staticLocs frame_1_statics s) 601024 7293034 := h
theorem lw_limb (L : Cond) (hL : ∀ (args : Array Value) (s t : State), L.after args s (.returned (some (.int 1))) t = true) :
    ArmFor flags0 classFile x code maxLocals ret World_1 tables_1 room_1 Calls_1 rest_1 Pre_1
      (fun tb e a s o t => postC L tb e a s o t ∧ Framed s o t (fieldLocs frame_1_writes a s ++ arrayLocs frame_1_arrays a s ++ staticLocs frame_1_statics s) 601024 7293034) := by
  intro l hflags _ _ p e ha hc hk s m args below hf hfit hheap happ hpre
  obtain ⟨k, o, h1, h2, h3, rfl, hF⟩ := lw_comes l hflags p e ha hc hk s m args below hf hfit hheap happ hpre
  exact ⟨k, _, h1, h2, h3, hL args s _, lw_frame hF⟩
theorem i_vc : Claimed_1_1 ∧ Claimed_1_2 := ⟨lw_limb limb_1_1 (fun args s t => by simp [limb_1_1, Cond.after, Cond.holds, Cond.value]), lw_limb limb_1_2 (fun args s t => Cond.after_iff.mpr (by
  first | (rw [show limb_1_2 = Cond.eq .result (.int 1) from rfl, Cond.eq_ints (x := 1) (y := 1) rfl rfl]; simp; done) | (simp [limb_1_2, Cond.value, Term.eval]; done)))⟩
