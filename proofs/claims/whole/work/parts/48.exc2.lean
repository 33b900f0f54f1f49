/-! ===== BEGIN a method of a class above, found by the receiver, that may throw (follows va_callVU, va_runU of this kit) ===== -/
section
variable {p : Program} {l : Launch} {e : Env} {R : Room} {s : State} {m : MethodId} {args : Array Value} {below : List Frame} {meth : Method} {c : Code} {H : Heap} {locs : List Loc} {cells slots : Nat}
theorem vx_callVU {T : State} {locs : List Loc} {cells slots : Nat} (X : Stand p l e R s m args below meth c T locs cells slots) (hexec : p.tables.exec = Jvm.exec) {own C owner : String} {index : Nat} {x y : MethodName} {bytes : ByteArray} {maxL : Nat} {ret : Option FieldType}
    (hown : s.vm.findClass own = some m.cls) (hlink : (Cond.methodLink own index x).before args s = true) (hsame : (Cond.sameMethod x.cls owner x.name x.desc).before args s = true)
    (hd0 : va_Decl s ⟨owner, x.name, x.desc⟩) (howner : owner ≠ "java/lang/invoke/MethodHandle" ∧ owner ≠ "java/lang/invoke/VarHandle")
    (hsel : (Cond.selects C x y).before args s = true) (hinst : (Cond.instanceMethod y).before args s = true) (hcode : (Cond.code y bytes maxL ret).before args s = true)
    {W : Nat} {Pre : Pt → Array Value → Prop} {Post : Pt → Array Value → Option Value → Pt → Prop} {PostX : Pt → Array Value → Addr → Pt → Prop} (hK : vx_Back l R p e below s args y 3 W Pre Post PostX)
    {b : Addr} {cellB : Cell} (hcell : T.heap[b]? = some cellB) (hobj : cellB.vm.isStatics = false) (hcls : s.vm.findClass C = some cellB.cls)
    {g : JFrame} (hg : g.method = m) (hsize : g.locals.size = c.maxLocals) {argsL rest : List Value} (hlen : ∀ sig, parseMethodDescriptor x.desc = some sig → argsL.length = sig.parameters.length)
    (hstack : g.stack = argsL.reverse ++ .ref b :: rest) (hW : 2 * g.monitorRoom + (rest.map fun v => v.category).sum ≤ W) (hdg : decode c.code g.pc = .ok (.invokevirtual index, 3))
    (hpre : ∀ vm₁, s.WarmedH vm₁ → Pre ⟨T.setVm vm₁, locs, cells, slots⟩ (Value.ref b :: argsL).toArray) :
    (∃ (v : Option Value) (vm₁ : Vm) (B : Pt), s.WarmedH vm₁ ∧ Stand p l e R s m args below meth c B.U B.locs B.cells B.slots ∧ Post ⟨T.setVm vm₁, locs, cells, slots⟩ (Value.ref b :: argsL).toArray v B ∧
      ∀ target, Steps p.tables e below (B.U.setTop { g with pc := g.pc + 3, stack := v.toList ++ rest }) target → Steps p.tables e below (T.setTop g) target) ∨
    (∃ (q : Addr) (vm₁ : Vm) (B : Pt), s.WarmedH vm₁ ∧ Stand p l e R s m args below meth c B.U B.locs B.cells B.slots ∧ PostX ⟨T.setVm vm₁, locs, cells, slots⟩ (Value.ref b :: argsL).toArray q B ∧
      Steps p.tables e below (T.setTop g) ((B.U.setTop { g with stack := rest }).pushFrame (.throwing q))) := by
  obtain ⟨r0, r, hn, hrm, hstR, hsigR⟩ := hd0
  obtain ⟨cn, ck, r1, hcn, hck, hni, hf, hn1⟩ := Cond.sameMethod_found hsame
  cases hn.symm.trans hn1
  obtain ⟨mk, methM, hnamed, hmethM, -, habM⟩ := Cond.instanceMethod_spec hinst
  obtain ⟨c2, r2, m2, q1, q2, q3, q4, kP, hkP, hkPi⟩ := Cond.selects_spec hsel
  cases hcls.symm.trans q1
  cases hf.symm.trans q2
  cases hnamed.symm.trans q3
  have hselP : selectMethod e.platform s.vm cellB.cls r0 = .method mk := by rw [Launch.admits_selectMethod X.admits]; exact q4
  obtain ⟨vm₁, X₁, hstep₁⟩ := X.invokevirtualUp hexec hown hlink hsame howner hn hrm hstR (a := b) (cell := cellB) hcell
    (fun z h => by rw [h] at hobj; cases hobj) hselP hmethM habM hkP hkPi (g := g) hg (argsL := argsL) (rest := rest) (hlen _ hsigR) hstack hdg
  rcases hK m meth c ⟨T.setVm vm₁, locs, cells, slots⟩ { g with stack := rest } (.invokevirtual index) mk (Value.ref b :: argsL).toArray X₁ hg hsize hdg hW (X₁.named hnamed) (hpre vm₁ X₁.warmed) with ⟨v, B, X', hpost, hsteps⟩ | ⟨q, B, X', hpost, hsteps⟩
  · exact Or.inl ⟨v, vm₁, B, X₁.warmed, X', hpost, fun target h => hstep₁ _ fun acts => by rw [doInvoke_state]; exact hsteps.trans h⟩
  · exact Or.inr ⟨q, vm₁, B, X₁.warmed, X', hpost, hstep₁ _ fun acts => by rw [doInvoke_state]; exact hsteps⟩
theorem vx_runU {x y : MethodName} {bytes cc : ByteArray} {maxL nL mc ms n index : Nat} {ret : Option FieldType} {ws : List Cond} {rm : Room} {Pc : Array Value → State → Prop} {Qc : Array Value → State → Outcome → State → Prop} {XC : String → State → State → Prop} {free : Addr → Prop} {Ts : List Cond} {own C owner : String} {b : Addr} {As rest : List Value} {g : JFrame}
    (S : CallFix p m c cc nL s args Ts own) (hM : vx_Met l y ws rm Pc Qc XC mc ms free) (cw : va_CU R s args own C owner index x y bytes maxL ret ws rm mc ms n) (hp : PreV s H C b Pc As)
    (hg : g.method = m) (hn : As.length = n) (hsize : g.locals.size = nL) (hstack : g.stack = As.reverse ++ .ref b :: rest) (hW : 2 * g.monitorRoom + (rest.map fun v => v.category).sum ≤ 8) (hdg : decode cc g.pc = .ok (.invokevirtual index, 3)) (hf : cells + mc ≤ R.cells ∧ slots + ms ≤ R.slots) :
    vx_Run p l e R s m args below meth c H locs cells slots mc ms g rest (Qc (Value.ref b :: As).toArray) XC free := by
  obtain ⟨hrc, hrs, hfr, hlo, hws, hcw⟩ := cw.back
  have hini := cw.init
  have hK : vx_Back l R p e below s args y 3 8 (PreOf R mc ms Pc) (PostOf Qc mc ms free) (vx_Post XC mc ms free) := vx_back (bytes := bytes) (maxL := maxL) (ret := ret) hM hp.1 hrc hrs hfr hlo hws hcw (fun a' U hW => word_at hW (Or.inl (by first | rfl | simp [Cond.onTables, Cond.keeps, Cond.steady])) hini)
  obtain ⟨hx, hb, hml, ho, -⟩ := S
  obtain ⟨-, ⟨cellB, hcB, hoB, hclB⟩, hPc⟩ := hp
  intro T hT X
  rcases vx_callVU X hx (C := C) (owner := owner) (bytes := bytes) (maxL := maxL) (ret := ret) ho cw.link cw.same cw.decl cw.notMH cw.sel cw.inst cw.code hK (by rw [hT]; exact hcB) hoB hclB hg (hsize.trans hml.symm) (argsL := As) (rest := rest) (fun sig h => hn.trans (cw.len sig h)) hstack hW (by rw [hb]; exact hdg)
    (fun vm₁ hW₁ => ⟨hf.1, hf.2, hPc (T.setVm vm₁) hT hW₁⟩) with ⟨v, vm₁, ⟨U', l2, c2, s2⟩, hW₁, X', ⟨g', mk, t, L, e1, e2, hq, h1, hL, h2, h3⟩, st⟩ | ⟨q, vm₁, ⟨U', l2, c2, s2⟩, hW₁, X', ⟨g', mk, t, L, E, ce, e1, e2, hq, hce, hcv, hcl, h1, hL, h2, h3⟩, st⟩
  · dsimp only [Pt.U, Pt.locs, Pt.cells, Pt.slots] at X' e1 e2 h1 h2 h3 st
    subst h1; subst h2; subst h3
    exact Or.inl ⟨v, (T.setVm vm₁).calling g' mk (Value.ref b :: As).toArray, t, U', L, hT, X', hL, e1, e2, hq, st⟩
  · dsimp only [Pt.U, Pt.locs, Pt.cells, Pt.slots] at X' e1 e2 h1 h2 h3 st hcl
    subst h1; subst h2; subst h3
    exact Or.inr ⟨q, (T.setVm vm₁).calling g' mk (Value.ref b :: As).toArray, t, U', L, E, ce, hT, X', hL, e1, e2, hq, hce, hcv, vx_cls hW₁ hcl, st⟩
end
/-! ===== END ===== -/
-- ===== methods that may throw, at the walk's level =====
def jXC (ad : Nat → Nat) (G : JG) (N : Nat) (A : Nat → Prop) (ΦX : String → AW → Prop) : String → State → State → Prop := fun E st t => (∃ w' : AW, ΦX E w' ∧ jP G ad w' N t.heap ∧ jD G ad w' N A) ∧ va_F A st t
def jZX (ad : Nat → Nat) (G : JG) (N mc ms : Nat) (Φ : Option AV → AW → Prop) (ΦX : String → AW → Prop) : JZ := fun below args s A => vx_MQ below (jQ ad G false N A Φ) (jXC ad G N A ΦX) args s mc ms A
/-- a contract that returns with Φ or throws with ΦX -/
def CallX (l : Launch) (M : MI) (N : Nat) (avs : List AV) (w : AW) (Φ : Option AV → AW → Prop) (ΦX : String → AW → Prop) : Prop :=
  ∀ (G : JG) (ad : Nat → Nat) (sz : Nat), vx_Met l M.1 (jws M) M.2.2.2.2 (jPc ad G false N sz avs w) (jQ ad G false N (va_A (jw G.2.2 ad w N) sz) Φ) (jXC ad G N (va_A (jw G.2.2 ad w N) sz) ΦX) M.2.2.2.2.cells M.2.2.2.2.slots (va_A (jw G.2.2 ad w N) sz)
abbrev jwsH (M : MI) (hh : List (Nat × Nat × Nat × Nat)) : List Cond := .codeWith M.1 M.2.1 M.2.2.1 M.2.2.2.1 hh :: gT
/-- the same of a method with a table of its own -/
def CallH (l : Launch) (M : MI) (hh : List (Nat × Nat × Nat × Nat)) (N : Nat) (avs : List AV) (w : AW) (Φ : Option AV → AW → Prop) : Prop :=
  ∀ (G : JG) (ad : Nat → Nat) (sz : Nat), vx_Met l M.1 (jwsH M hh) M.2.2.2.2 (jPc ad G false N sz avs w) (jQ ad G false N (va_A (jw G.2.2 ad w N) sz) Φ) (jXC ad G N (va_A (jw G.2.2 ad w N) sz) (fun _ _ => False)) M.2.2.2.2.cells M.2.2.2.2.slots (va_A (jw G.2.2 ad w N) sz)
theorem jx_entry {l : Launch} {M : MI} {ad : Nat → Nat} {G : JG} {N sz : Nat} {avs : List AV} {w : AW} {L : List (Option AV)} {Z : JZ} (hn : (entL avs).length ≤ M.2.2.1) (hL : entL avs ++ List.replicate (M.2.2.1 - (entL avs).length) none = L)
    (k : J l M ad G [] false Z N 0 0 0 L [] w) {ws : List Cond} {p : Program} {e : Env} {s s₁ : State} {m : MethodId} {args : Array Value} {below : List Frame} {meth : Method} {c : Code}
    (B : BodyLoose p l M.1 (headSpec ws M.2.2.2.2) M.2.1 M.2.2.1 M.2.2.2.1 e s m args below meth c s₁) (hml : c.maxLocals = M.2.2.1) (hws : ∀ w ∈ gT, w ∈ ws) (hv : jPc ad G false N sz avs w args s) : W p l e (headSpec ws M.2.2.2.2).room s m args below meth c s.heap [] 0 0 (Z below args s (va_A (jw G.2.2 ad w N) sz)) (entryFrame m args M.2.2.1) := by
  obtain ⟨rfl, hsz, hP, hD0, hK, hZ, hal⟩ := hv
  have hts := atoms_spec (ws := ws) B.pre
  have hown : s.vm.findClass M.1.cls = some m.cls := findClass_of_methodNamed B.named
  subst hsz
  have hD := hD0.self (sz := s.heap.size)
  have hlen : (lg_sl (avs.map (jv ad))).length = (entL avs).length := by
    clear hn hL k hP hD0 hK hZ hal B hts hD
    induction avs with
    | nil => rfl
    | cons v r ih =>
      rcases v with z | z | _ | z <;> simp only [List.map_cons, jv, lg_sl, List.flatMap_cons, entL, List.length_append, List.length_cons] <;> (try simp only [lg_sl] at ih) <;> rw [ih] <;> simp [Value.category] <;> omega
  have hl := lv_entry (avs.map (jv ad)) (n := M.2.2.1) (by rw [hlen]; exact hn)
  rw [lg_entry_eq]
  generalize (lg_sl (avs.map (jv ad)) ++ List.replicate (M.2.2.1 - (lg_sl (avs.map (jv ad))).length) Slot.unset).toArray = ls at hl ⊢
  have hl2 : jl ad ls M.2.2.1 L := by
    unfold jl
    rw [← hL, jll_app, jll_ent]
    exact hl
  exact k p e s m _ below meth c (va_A (jw G.2.2 ad w N) s.heap.size) s.heap [] ls ⟨⟨B.exec, B.bytes, hml, hown, fun w hw => hts w (hws w hw)⟩, B.returns, B.notSynchronized, ⟨(name_of_methodNamed B.named B.method).1, B.named⟩, hK, fun q h => Or.inr h, hZ, fun x hx => absurd hx List.not_mem_nil, fun ha => (hal ha).2⟩ hP hD va_S.rf (fun ha => (hal ha).1) hl2
theorem CallX.of {l : Launch} {M : MI} {N : Nat} {avs : List AV} {w : AW} {Φ : Option AV → AW → Prop} {ΦX : String → AW → Prop} {L : List (Option AV)} (hy : plainName M.1.cls = true) (hn : (entL avs).length ≤ M.2.2.1) (hL : entL avs ++ List.replicate (M.2.2.1 - (entL avs).length) none = L)
    (k : ∀ (G : JG) (ad : Nat → Nat), J l M ad G [] false (jZX ad G N M.2.2.2.2.cells M.2.2.2.2.slots Φ ΦX) N 0 0 0 L [] w) : CallX l M N avs w Φ ΦX := by
  intro G ad sz
  refine vx_ofW (cc := M.2.1) (maxL := M.2.2.1) (ret := M.2.2.2.1) hy rfl ?_
  intro p e s m args below meth c s₁ B hml _ hv
  exact jx_entry hn hL (k G ad) B hml (fun w h => List.mem_cons_of_mem _ h) hv
theorem CallH.of {l : Launch} {M : MI} {hh : List (Nat × Nat × Nat × Nat)} {N : Nat} {avs : List AV} {w : AW} {Φ : Option AV → AW → Prop} {L : List (Option AV)} (hy : plainName M.1.cls = true) (hn : (entL avs).length ≤ M.2.2.1) (hL : entL avs ++ List.replicate (M.2.2.1 - (entL avs).length) none = L)
    (k : ∀ (G : JG) (ad : Nat → Nat), J l M ad G [] false (jZX ad G N M.2.2.2.2.cells M.2.2.2.2.slots Φ (fun _ _ => False)) N 0 0 0 L [] w) : CallH l M hh N avs w Φ := by
  intro G ad sz
  refine vx_ofWH (cc := M.2.1) (maxL := M.2.2.1) (ret := M.2.2.2.1) (hh := hh) hy rfl ?_
  intro p e s m args below meth c s₁ B hml hv
  exact jx_entry hn hL (k G ad) B hml (fun w h => List.mem_cons_of_mem _ h) hv
theorem jx_tabN {p : Program} {l : Launch} {e : Env} {R : Room} {s T : State} {m : MethodId} {args : Array Value} {below : List Frame} {meth : Method} {c : Code} {locs : List Loc} {cells slots : Nat} {y : MethodName} {cc : ByteArray} {mL : Nat} {ret : Option FieldType} (X : Stand p l e R s m args below meth c T locs cells slots) (hn : s.methodNamed? y = some m) (hw : (Cond.code y cc mL ret).before args s = true) : ∀ x ∈ c.exceptionTable.toList, False := by
  obtain ⟨meth9, c9, h1, h2, -, -, -, -, h7, -⟩ := Cond.code_spec hn hw
  cases Option.some.inj (h1.symm.trans X.method)
  cases Option.some.inj (h2.symm.trans X.code)
  intro x hx
  rw [Array.isEmpty_iff.mp h7] at hx
  cases hx
theorem jx_tabH {p : Program} {l : Launch} {e : Env} {R : Room} {s T : State} {m : MethodId} {args : Array Value} {below : List Frame} {meth : Method} {c : Code} {locs : List Loc} {cells slots : Nat} {y : MethodName} {cc : ByteArray} {mL : Nat} {ret : Option FieldType} {hh : List (Nat × Nat × Nat × Nat)} (X : Stand p l e R s m args below meth c T locs cells slots) (hn : s.methodNamed? y = some m) (hw : (Cond.codeWith y cc mL ret hh).before args s = true) : c.exceptionTable.toList = tableOf hh := by
  obtain ⟨m9, meth9, c9, hn9, h1, h2, -, -, h6, -⟩ := Cond.codeWith_spec hw
  cases Option.some.inj (hn9.symm.trans hn)
  cases Option.some.inj (h1.symm.trans X.method)
  cases Option.some.inj (h2.symm.trans X.code)
  rw [← h6, table_eq]
section JRX
variable {l : Launch} {M Mc : MI} {ad : Nat → Nat} {G : JG} {X : List (Nat × Nat × (Int → Int))} {Z : JZ} {N cells slots pc pc' mc ms : Nat} {L L' : List (Option AV)} {st rest as : List AV} {w : AW} {Φ Φ0 : Option AV → AW → Prop} {ΦX ΦX0 : String → AW → Prop}
theorem j_xret (k : J l M ad G X false (jZ ad G false N mc ms Φ) N cells slots pc L st w) : J l M ad G X false (jZX ad G N mc ms Φ ΦX) N cells slots pc L st w := by
  intro p e s m args below meth c A H locs ls C P D S sz hl
  exact vx_ret (k p e s m args below meth c A H locs ls C P D S sz hl)
theorem j_wide {k9 n9 : Nat} {al : Bool} (h1 : cells ≤ k9) (h2 : slots ≤ n9) (k : J l M ad G X al Z N k9 n9 pc L st w) : J l M ad G X al Z N cells slots pc L st w := by
  intro p e s m args below meth c A H locs ls C P D S sz hl T hT X9
  exact k p e s m args below meth c A H locs ls C P D S sz hl T hT (stand_widen X9 h1 h2)
theorem jx_ok {B : List Cond} (h1 : ∀ w ∈ B.filter goodWord, w ∈ gT) (h2 : ∀ w ∈ B.filter (fun w => !goodWord w), w ∈ fT) {w : Cond} (hw : w ∈ B) : w ∈ gT ∨ w ∈ fT := by
  by_cases g : goodWord w = true
  · exact Or.inl (h1 w (List.mem_filter.mpr ⟨hw, g⟩))
  · exact Or.inr (h2 w (List.mem_filter.mpr ⟨hw, by simpa using g⟩))
theorem jx_ot {w : Cond} (h : w ∈ gT ∨ w ∈ fT) : vx_ot w = true := by
  simp only [vx_ot, Bool.or_eq_true]
  rcases h with h | h
  · exact Or.inr (gT_good h)
  · exact Or.inl (face_tab (List.mem_filter.mp h).2)
theorem jx_bf {p : Program} {s : State} {m : MethodId} {args : Array Value} {meth : Method} {c : Code} {A : Nat → Prop} (C : JX M ad G X false p s m args meth c A) {w : Cond} (h : w ∈ gT ∨ w ∈ fT) : w.before args s = true := by
  rcases h with h | h
  · exact C.1.2.2.2.2 w h
  · exact va_Nw.use (face_tab (List.mem_filter.mp h).2) (C.2.2.2.2.1.2.2.1 w h)
theorem jx_XC {A : Nat → Prop} {s : State} {H : Heap} {locs : List Loc} {E : String} (P : jP G ad w N H) (D : jD G ad w N A) (S : va_S A s.heap H locs) (hΦ : ΦX E w) (t : State) (h1 : H.size ≤ t.heap.size) (h2 : ∀ q : Nat, q < H.size → t.heap[q]? = H[q]?) : jXC ad G N A ΦX E s t := by
  refine ⟨⟨w, hΦ, P.kept (fun k q hk => h2 _ (vx_lt P hk)), D⟩, Nat.le_trans S.1 h1, fun q hq hA => ?_⟩
  rw [h2 q (Nat.lt_of_lt_of_le hq S.1)]
  exact S.2.1 q hq hA
theorem j_throw0 {cls : String} {names : List String} {ik ic : Nat} (hl9 : l.stackTraces = false) (d0 : JD M pc (.new ik) 3) (d3 : JD M (pc + 3) .dup 1) (d4 : JD M (pc + 4) (.invokespecial ic) 3) (d7 : JD M (pc + 7) .athrow 1)
    (hcls : Bundle.fit cls = true) (hnames : ∀ n ∈ names, Bundle.fit n = true) (hk : Cond.classLink M.1.cls ik cls ∈ gT) (hini : Cond.initialized cls ∈ gT) (hg1 : ∀ w ∈ (vx_at0 M.1.cls ic cls names).filter goodWord, w ∈ gT) (hg2 : ∀ w ∈ (vx_at0 M.1.cls ic cls names).filter (fun w => !goodWord w), w ∈ fT) (hcw : Cond.code M.1 M.2.1 M.2.2.1 M.2.2.2.1 ∈ gT)
    (hr : (decide (names.length + 3 < M.2.2.2.2.frames) && decide ((st.map jcat).sum + (13 * (names.length + 1) + 42) ≤ M.2.2.2.2.locals) && decide (cells + 1 ≤ M.2.2.2.2.cells) && decide (slots + 6 ≤ M.2.2.2.2.slots) && decide (cells + 1 ≤ mc) && decide (slots + 6 ≤ ms)) = true) (hΦ : ΦX cls w) : J l M ad G X false (jZX ad G N mc ms Φ ΦX) N cells slots pc L st w := by
  simp only [Bool.and_eq_true, decide_eq_true_eq] at hr
  intro p e s m args below meth c A H locs ls C P D S sz hl T hT X9
  refine vx_throw0 (cc := M.2.1) (own := M.1.cls) (cls := cls) (names := names) (ik := ik) (ic := ic) (A := A) C.1.1 C.1.2.1 hl9 C.1.2.2.2.1 hcls hnames (C.1.2.2.2.2 _ hk) (C.1.2.2.2.2 _ hini) (fun w hw => jx_bf C (jx_ok hg1 hg2 hw)) (fun w hw => ?_) C.2.2.2.2.2.2.1.2.2.1 C.2.2.2.2.2.2.1.2.2.2 S (hl.1.trans C.1.2.2.1.symm) d0 d3 d4 d7 (fun x hx => (jx_tabN X9 C.2.2.2.1.2 (C.1.2.2.2.2 _ hcw) x hx).elim) hr.1.1.1.1.1 (by rw [jcat_sum]; exact hr.1.1.1.1.2) hr.1.1.1.2 hr.1.1.2 C.2.2.1 (fun t _ h1 h2 => jx_XC P D S hΦ t h1 h2) S.2.2 hr.1.2 hr.2 T hT X9
  rcases List.mem_cons.mp hw with rfl | hw
  · exact jx_ot (Or.inl hk)
  · rcases List.mem_cons.mp hw with rfl | hw
    · exact jx_ot (Or.inl hini)
    · exact jx_ot (jx_ok hg1 hg2 hw)
theorem j_throwSW {cls text : String} {names : List String} {ik is ic : Nat} (hl9 : l.stackTraces = false) (d0 : JD M pc (.new ik) 3) (d3 : JD M (pc + 3) .dup 1) (d4 : JD M (pc + 4) (.ldc_w is) 3) (d7 : JD M (pc + 7) (.invokespecial ic) 3) (d10 : JD M (pc + 10) .athrow 1)
    (hcls : Bundle.fit cls = true) (hnames : ∀ n ∈ names, Bundle.fit n = true) (hk : Cond.classLink M.1.cls ik cls ∈ gT) (hini : Cond.initialized cls ∈ gT) (hstr : ∀ s, KS G s → ∃ a, vk_R M.1.cls is text a s) (hg1 : ∀ w ∈ (vx_atS M.1.cls ic cls names).filter goodWord, w ∈ gT) (hg2 : ∀ w ∈ (vx_atS M.1.cls ic cls names).filter (fun w => !goodWord w), w ∈ fT) (hcw : Cond.code M.1 M.2.1 M.2.2.1 M.2.2.2.1 ∈ gT)
    (hr : (decide (names.length + 3 < M.2.2.2.2.frames) && decide ((st.map jcat).sum + (13 * (names.length + 1) + 43) ≤ M.2.2.2.2.locals) && decide (cells + 1 ≤ M.2.2.2.2.cells) && decide (slots + 6 ≤ M.2.2.2.2.slots) && decide (cells + 1 ≤ mc) && decide (slots + 6 ≤ ms)) = true) (hΦ : ΦX cls w) : J l M ad G X false (jZX ad G N mc ms Φ ΦX) N cells slots pc L st w := by
  simp only [Bool.and_eq_true, decide_eq_true_eq] at hr
  intro p e s m args below meth c A H locs ls C P D S sz hl T hT X9
  obtain ⟨a9, hstr⟩ := hstr s C.2.2.2.2.1
  refine vx_throwSW (cc := M.2.1) (own := M.1.cls) (cls := cls) (names := names) (ik := ik) (is := is) (ic := ic) (A := A) C.1.1 C.1.2.1 hl9 C.1.2.2.2.1 hcls hnames (C.1.2.2.2.2 _ hk) (C.1.2.2.2.2 _ hini) hstr (fun w hw => jx_bf C (jx_ok hg1 hg2 hw)) (fun w hw => ?_) C.2.2.2.2.2.2.1.2.2.1 C.2.2.2.2.2.2.1.2.2.2 S (hl.1.trans C.1.2.2.1.symm) d0 d3 d4 d7 d10 (fun x hx => (jx_tabN X9 C.2.2.2.1.2 (C.1.2.2.2.2 _ hcw) x hx).elim) hr.1.1.1.1.1 (by rw [jcat_sum]; exact hr.1.1.1.1.2) hr.1.1.1.2 hr.1.1.2 C.2.2.1 (fun t _ h1 h2 => jx_XC P D S hΦ t h1 h2) S.2.2 hr.1.2 hr.2 T hT X9
  rcases List.mem_cons.mp hw with rfl | hw
  · exact jx_ot (Or.inl hk)
  · rcases List.mem_cons.mp hw with rfl | hw
    · exact jx_ot (Or.inl hini)
    · exact jx_ot (jx_ok hg1 hg2 hw)
/-- the walk's frame, an exception of class E thrown over it -/
def JT (l : Launch) (M : MI) (ad : Nat → Nat) (G : JG) (X : List (Nat × Nat × (Int → Int))) (Z : JZ) (N cells slots pc : Nat) (L : List (Option AV)) (w : AW) (E : String) : Prop :=
  ∀ (p : Program) (e : Env) (s : State) (m : MethodId) (args : Array Value) (below : List Frame) (meth : Method) (c : Code) (A : Nat → Prop) (H : Heap) (locs : List Loc) (ls : Array Slot) (rs : List Value) (q : Addr) (ce : Cell),
    JX M ad G X false p s m args meth c A → jP G ad w N H → jD G ad w N A → va_S A s.heap H locs → jl ad ls M.2.2.1 L → H[q]? = some ce → ce.vm = .none → s.vm.findClass E = some ce.cls →
    vx_W p l e M.2.2.2.2 s m args below meth c H locs cells slots (Z below args s A) (F0 m pc ls rs) q
theorem jl_cut {ls : Array Slot} {nL i : Nat} {v : Value} (hL : (cutL L i).set i none = L') (h : lv_has ls nL ((i, v) :: (jll ad 0 L).filter (fun q => !(q.1 == i) && !(q.1 + 1 == i && q.2.category == 2)))) : jl ad ls nL L' := by
  subst hL
  refine ⟨h.1, h.2.1, fun q hq => ?_⟩
  obtain ⟨j, u, h1, h2, h3⟩ := (jll_mem _ 0 q).mp hq
  obtain ⟨a, b⟩ := q
  simp only at h2 h3
  have ea : a = j := by omega
  subst ea; subst h3
  by_cases hji : a = i
  · subst hji
    by_cases hl : a < (cutL L a).length
    · rw [List.getElem?_set_self hl] at h1
      simp at h1
    · rw [List.getElem?_eq_none (by rw [List.length_set]; omega)] at h1
      simp at h1
  · rw [List.getElem?_set_ne (Ne.symm hji)] at h1
    obtain ⟨h4, h5⟩ := cutL_at h1
    refine h.2.2 _ (List.mem_cons_of_mem _ (List.mem_filter.mpr ⟨(jll_mem L 0 _).mpr ⟨a, u, h4, by simp, rfl⟩, ?_⟩))
    simp only [jv_cat, Bool.and_eq_true, Bool.not_eq_true', beq_eq_false_iff_ne, ne_eq, Bool.and_eq_false_iff]
    refine ⟨hji, ?_⟩
    by_cases e : a + 1 = i
    · exact Or.inr (fun e2 => h5 ⟨e, e2⟩)
    · exact Or.inl e
theorem j_catch {hh : List (Nat × Nat × Nat × Nat)} {E : String} {i : Nat} (pre : List ExceptionTableEntry) (x : ExceptionTableEntry) (suf : List ExceptionTableEntry) (hcw : Cond.codeWith M.1 M.2.1 M.2.2.1 M.2.2.2.1 hh ∈ gT) (hsp : tableOf hh = pre ++ x :: suf)
    (hpass : ∀ z ∈ pre, z.catchType ≠ 0 ∧ ∃ nm : String, Cond.classLink M.1.cls z.catchType nm ∈ gT ∧ ∀ s, NC s → va_Nc E nm s) (hx : covers x pc = true) (h0 : x.catchType ≠ 0) (hlink : Cond.classLink M.1.cls x.catchType E ∈ gT) (hcast : Cond.castable E E ∈ fT)
    (hd : JD M x.handlerPc (.astore i) 2) (hp : x.handlerPc + 2 = pc') (hi : i < M.2.2.1) (hL : (cutL L i).set i none = L') (k : J l M ad G X false Z N cells slots pc' L' [] w) : JT l M ad G X Z N cells slots pc L w E := by
  subst hp
  intro p e s m args below meth c A H locs ls rs q ce C P D S hl hq hv hcl T hT X9
  refine vx_catch (own := M.1.cls) (name := E) (E := E) C.1.2.2.2.1 pre x suf ((jx_tabH X9 C.2.2.2.1.2 (C.1.2.2.2.2 _ hcw)).trans hsp) (fun z hz => Or.inr ⟨(hpass z hz).1, ?_⟩) hx h0 (C.1.2.2.2.2 _ hlink) (jx_bf C (Or.inr hcast)) hq hv hcl (lv_astore C.1.1 C.1.2.1 hd hl hi rfl (fun ls' hl' => k p e s m args below meth c A H locs ls' C P D S (fun h => by cases h) (jl_cut hL hl'))) T hT X9
  obtain ⟨-, nm, h1, h2⟩ := hpass z hz
  exact ⟨nm, C.1.2.2.2.2 _ h1, h2 s C.2.2.2.2.1.2.2.2.2.2.2.2⟩
theorem j_xback {p : Program} {e : Env} {s : State} {m : MethodId} {args a : Array Value} {below : List Frame} {meth : Method} {c : Code} {A A1 : Nat → Prop} {H : Heap} {locs : List Loc} {ls : Array Slot} {st0 rs : List Value} {mc ms : Nat}
    (C : JX M ad G X false p s m args meth c A) (hr : vx_Run p l e M.2.2.2.2 s m args below meth c H locs cells slots mc ms (F0 m pc ls st0) rs (jQ ad G false N A1 Φ a) (jXC ad G N A1 ΦX) A1) (S : va_S A s.heap H locs) (hA : ∀ q, A1 q → A q) (hl : jl ad ls M.2.2.1 L)
    (kx : ∀ (E : String) (w' : AW), ΦX E w' → JT l M ad G X Z N (cells + mc) (slots + ms) pc L w' E)
    (kk : ∀ (r : Option AV) (w' : AW) (H1 : Heap) (locs1 : List Loc), Φ r w' → jP G ad w' N H1 → jD G ad w' N A → va_S A s.heap H1 locs1 → W p l e M.2.2.2.2 s m args below meth c H1 locs1 (cells + mc) (slots + ms) (Z below args s A) (F0 m (pc + 3) ls ((r.map (jv ad)).toList ++ rs))) : W p l e M.2.2.2.2 s m args below meth c H locs cells slots (Z below args s A) (F0 m pc ls st0) := by
  intro T hT X9
  have hSS : ∀ {st₀ t T' : State} {LL : List Loc}, st₀.heap = H → T'.heap = t.heap → va_F A1 st₀ t → (∀ q ∈ LL, A1 q.base) → va_S A s.heap T'.heap (locs ++ LL) := by
    intro st₀ t T' LL h0 e1 hF hL
    obtain ⟨hz, hk⟩ := hF
    rw [h0] at hz hk
    exact ⟨Nat.le_trans S.1 (by rw [e1]; exact hz), fun q h1 h2 => by rw [e1, hk q (Nat.lt_of_lt_of_le h1 S.1) (fun z => h2 (hA q z))]; exact S.2.1 q h1 h2, fun q hq => by
      rcases List.mem_append.mp hq with h | h
      · exact S.2.2 q h
      · exact hA _ (hL q h)⟩
  rcases hr T hT X9 with ⟨v, st₀, t, T', LL, h0, X', hL, e1, e2, ⟨⟨r, w', hv, hp, hP, hD, hsz⟩, hF⟩, st⟩ | ⟨q, st₀, t, T', LL, E, ce, h0, X', hL, e1, e2, ⟨⟨w', hp, hP, hD⟩, hF⟩, hce, hcv, hcl, st⟩
  · cases hv
    obtain ⟨t2, a1, b1⟩ := kk r w' T'.heap (locs ++ LL) hp (by rw [e1]; exact hP) (hD.weaken (fun _ _ _ h => hA _ h)) (hSS h0 e1 hF hL) T' rfl X'
    exact ⟨t2, st t2 a1, b1⟩
  · obtain ⟨t2, a1, b1⟩ := kx E w' hp p e s m args below meth c A T'.heap (locs ++ LL) ls rs q ce C (by rw [e1]; exact hP) (hD.weaken (fun _ _ _ h => hA _ h)) (hSS h0 e1 hF hL) hl (by rw [e1]; exact hce) hcv hcl T' rfl X'
    exact ⟨t2, st.trans a1, b1⟩
theorem j_xcallV {idx n q ci : Nat} {fs : List AV} (hd : JD M pc (.invokevirtual idx) 3) (hp : pc + 3 = pc') (hs : SiteV M.1.cls idx Mc n) (hc : CallX l Mc N (aR q :: as) w Φ ΦX) (hq : q < N) (hw : w q = eO ci fs) (hci : (classes[ci]?.map (·.1)) = some Mc.1.cls) (hn : as.length = n) (hst : as.reverse ++ (aR q :: rest) = st) (hr : rmB M Mc cells slots rest = true)
    (kx : ∀ (E : String) (w' : AW), ΦX E w' → JT l M ad G X Z N (cells + Mc.2.2.2.2.cells) (slots + Mc.2.2.2.2.slots) pc L w' E)
    (kk : ∀ (r : Option AV) (w' : AW), Φ r w' → J l M ad G X false Z N (cells + Mc.2.2.2.2.cells) (slots + Mc.2.2.2.2.slots) pc' L (r.toList ++ rest) w') : J l M ad G X false Z N cells slots pc L st w := by
  subst hp; subst hst
  simp only [Bool.and_eq_true, decide_eq_true_eq] at hr
  obtain ⟨hws, hdo⟩ := hs
  obtain ⟨cn, hcn, hcn2⟩ := Option.map_eq_some_iff.mp hci
  intro p e s m args below meth c A H locs ls C P D S sz hl
  have hts := fun w hw => C.1.2.2.2.2 w (hws w hw)
  have hrv := j_recv C P hq hw hcn
  rw [hcn2] at hrv
  rw [jst_rev]
  refine j_xback C (vx_runV (b := ad q) (As := as.map (jv ad)) (rest := rest.map (jv ad)) C.1 (hc G ad H.size) ⟨callB_of n C.1.2.2.2.2 (jws_good (hws _ (by simp))) rfl rfl rfl (hts _ (by simp)) (hts _ (by simp)) hdo ⟨hr.1.1.1.1, hr.1.1.1.2⟩, hts _ (by simp), hts _ (by simp)⟩ ⟨jPc_blind, hrv, j_pre C P D S sz (aR q :: as)⟩ rfl (by rw [List.length_map]; exact hn) hl.1 rfl (lv_room (by rw [jcat_sum]; exact hr.1.1.2)) hd ⟨hr.1.2, hr.2⟩) S (j_afree D S C.2.2.2.2.2.1) hl kx (fun r w' H1 locs1 hΦ hP hD hS => ?_)
  rw [jrt]
  exact kk r w' hΦ p e s m args below meth c A H1 locs1 ls C hP hD hS (fun h => by cases h) hl
theorem j_xcallO {idx n q ci : Nat} {fs : List AV} {Cn : String} {Mx : MI} (hd : JD M pc (.invokevirtual idx) 3) (hp : pc + 3 = pc') (hs : SiteO M.1.cls idx Cn Mx.1 Mc n) (hx : SiteO M.1.cls idx Mx.1.cls Mx.1 Mx n) (hc : CallX l Mc N (aR q :: as) w Φ ΦX) (hq : q < N) (hw : w q = eO ci fs) (hci : (classes[ci]?.map (·.1)) = some Cn) (hn : as.length = n) (hst : as.reverse ++ (aR q :: rest) = st) (hr : rmB M Mc cells slots rest = true)
    (kx : ∀ (E : String) (w' : AW), ΦX E w' → JT l M ad G X Z N (cells + Mc.2.2.2.2.cells) (slots + Mc.2.2.2.2.slots) pc L w' E)
    (kk : ∀ (r : Option AV) (w' : AW), Φ r w' → J l M ad G X false Z N (cells + Mc.2.2.2.2.cells) (slots + Mc.2.2.2.2.slots) pc' L (r.toList ++ rest) w') : J l M ad G X false Z N cells slots pc L st w := by
  subst hp; subst hst
  simp only [Bool.and_eq_true, decide_eq_true_eq] at hr
  obtain ⟨hws, hdo⟩ := hs
  obtain ⟨cn, hcn, hcn2⟩ := Option.map_eq_some_iff.mp hci
  intro p e s m args below meth c A H locs ls C P D S sz hl
  have hts := fun w hw => C.1.2.2.2.2 w (hws w hw)
  have hrv := j_recv C P hq hw hcn
  rw [hcn2] at hrv
  rw [jst_rev]
  have hgi : GoodIn gT (va_wsO M.1.cls idx Cn Mx.1.cls Mx.1 Mc.1 (jws Mc)) := by
    intro w9 hw9
    unfold va_wsO at hw9
    rcases List.mem_append.mp hw9 with h9 | h9
    · have : w9 ∈ gT := by
        rcases List.mem_cons.mp h9 with rfl | h9
        · exact hws _ (by simp)
        rcases List.mem_cons.mp h9 with rfl | h9
        · exact hws _ (by simp)
        rcases List.mem_cons.mp h9 with rfl | h9
        · exact hws (.instanceMethod Mx.1) (by simp)
        rcases List.mem_cons.mp h9 with rfl | h9
        · exact hws _ (by simp)
        rcases List.mem_cons.mp h9 with rfl | h9
        · exact hws _ (by simp)
        rcases List.mem_cons.mp h9 with rfl | h9
        · exact hws _ (by simp)
        cases h9
      exact ⟨this, good_of_word (gT_good this)⟩
    · exact jws_good (hws _ (by simp)) w9 h9
  refine j_xback C (vx_runU (b := ad q) (As := as.map (jv ad)) (rest := rest.map (jv ad)) C.1 (hc G ad H.size) (va_cwO n C.1.2.2.2.2 hgi rfl rfl rfl (hx.1 (.code Mx.1 Mx.2.1 Mx.2.2.1 Mx.2.2.2.1) (by simp)) hdo ⟨hr.1.1.1.1, hr.1.1.1.2⟩) ⟨jPc_blind, hrv, j_pre C P D S sz (aR q :: as)⟩ rfl (by rw [List.length_map]; exact hn) hl.1 rfl (lv_room (by rw [jcat_sum]; exact hr.1.1.2)) hd ⟨hr.1.2, hr.2⟩) S (j_afree D S C.2.2.2.2.2.1) hl kx (fun r w' H1 locs1 hΦ hP hD hS => ?_)
  rw [jrt]
  exact kk r w' hΦ p e s m args below meth c A H1 locs1 ls C hP hD hS (fun h => by cases h) hl
theorem jwsH_good {hh : List (Nat × Nat × Nat × Nat)} (h : Cond.codeWith Mc.1 Mc.2.1 Mc.2.2.1 Mc.2.2.2.1 hh ∈ gT) : GoodIn gT (jwsH Mc hh) := by
  intro w hw
  rcases List.mem_cons.mp hw with rfl | hw
  · exact ⟨h, good_of_word (gT_good h)⟩
  · exact ⟨hw, good_of_word (gT_good hw)⟩
def SiteVH (own : String) (idx : Nat) (M : MI) (hh : List (Nat × Nat × Nat × Nat)) (n : Nat) : Prop := (∀ w ∈ ([.codeWith M.1 M.2.1 M.2.2.1 M.2.2.2.1 hh, .methodLink own idx M.1, .instanceMethod M.1, .selects M.1.cls M.1 M.1, .initialized M.1.cls] : List Cond), w ∈ gT) ∧ dOK M.1 n
def SiteSH (own : String) (idx : Nat) (M : MI) (hh : List (Nat × Nat × Nat × Nat)) (n : Nat) : Prop := (∀ w ∈ ([.codeWith M.1 M.2.1 M.2.2.1 M.2.2.2.1 hh, .methodLink own idx M.1, .static M.1, .initialized M.1.cls] : List Cond), w ∈ gT) ∧ dOK M.1 n
theorem j_callVH {hh : List (Nat × Nat × Nat × Nat)} {idx n q ci : Nat} {fs : List AV} (hd : JD M pc (.invokevirtual idx) 3) (hp : pc + 3 = pc') (hs : SiteVH M.1.cls idx Mc hh n) (hc : CallH l Mc hh N (aR q :: as) w Φ) (hq : q < N) (hw : w q = eO ci fs) (hci : (classes[ci]?.map (·.1)) = some Mc.1.cls) (hn : as.length = n) (hst : as.reverse ++ (aR q :: rest) = st) (hr : rmB M Mc cells slots rest = true)
    (kk : ∀ (r : Option AV) (w' : AW), Φ r w' → J l M ad G X false Z N (cells + Mc.2.2.2.2.cells) (slots + Mc.2.2.2.2.slots) pc' L (r.toList ++ rest) w') : J l M ad G X false Z N cells slots pc L st w := by
  subst hp; subst hst
  simp only [Bool.and_eq_true, decide_eq_true_eq] at hr
  obtain ⟨hws, hdo⟩ := hs
  obtain ⟨cn, hcn, hcn2⟩ := Option.map_eq_some_iff.mp hci
  intro p e s m args below meth c A H locs ls C P D S sz hl
  have hrv := j_recv C P hq hw hcn
  rw [hcn2] at hrv
  rw [jst_rev]
  have hgi : GoodIn gT (wsV M.1.cls idx Mc.1.cls Mc.1 (jwsH Mc hh)) := by
    intro w9 hw9
    unfold wsV at hw9
    rcases List.mem_append.mp hw9 with h9 | h9
    · have : w9 ∈ gT := hws w9 (List.mem_cons_of_mem _ h9)
      exact ⟨this, good_of_word (gT_good this)⟩
    · exact jwsH_good (hws _ (by simp)) w9 h9
  refine j_xback C (vx_runVX (hh := hh) (b := ad q) (As := as.map (jv ad)) (rest := rest.map (jv ad)) C.1 (hc G ad H.size) (vx_cwVW n C.1.2.2.2.2 hgi rfl rfl rfl ⟨rfl, hdo⟩ ⟨hr.1.1.1.1, hr.1.1.1.2⟩) ⟨jPc_blind, hrv, j_pre C P D S sz (aR q :: as)⟩ rfl (by rw [List.length_map]; exact hn) hl.1 rfl (lv_room (by rw [jcat_sum]; exact hr.1.1.2)) hd ⟨hr.1.2, hr.2⟩) S (j_afree D S C.2.2.2.2.2.1) hl (fun E w' h => h.elim) (fun r w' H1 locs1 hΦ hP hD hS => ?_)
  rw [jrt]
  exact kk r w' hΦ p e s m args below meth c A H1 locs1 ls C hP hD hS (fun h => by cases h) hl
theorem j_callSH {hh : List (Nat × Nat × Nat × Nat)} {idx n : Nat} (hd : JD M pc (.invokestatic idx) 3) (hp : pc + 3 = pc') (hs : SiteSH M.1.cls idx Mc hh n) (hc : CallH l Mc hh N as w Φ) (hn : as.length = n) (hst : as.reverse ++ rest = st) (hr : rmB M Mc cells slots rest = true)
    (kk : ∀ (r : Option AV) (w' : AW), Φ r w' → J l M ad G X false Z N (cells + Mc.2.2.2.2.cells) (slots + Mc.2.2.2.2.slots) pc' L (r.toList ++ rest) w') : J l M ad G X false Z N cells slots pc L st w := by
  subst hp; subst hst
  simp only [Bool.and_eq_true, decide_eq_true_eq] at hr
  obtain ⟨hws, hdo⟩ := hs
  intro p e s m args below meth c A H locs ls C P D S sz hl
  rw [jst_rev]
  have hgi : GoodIn gT (va_wsS M.1.cls idx Mc.1 (jwsH Mc hh)) := by
    intro w9 hw9
    unfold va_wsS at hw9
    rcases List.mem_append.mp hw9 with h9 | h9
    · have : w9 ∈ gT := hws w9 (List.mem_cons_of_mem _ h9)
      exact ⟨this, good_of_word (gT_good this)⟩
    · exact jwsH_good (hws _ (by simp)) w9 h9
  refine j_xback C (vx_runSX (hh := hh) (As := as.map (jv ad)) (rest := rest.map (jv ad)) C.1 (hc G ad H.size) (vx_cwSW n C.1.2.2.2.2 hgi rfl rfl rfl hdo ⟨hr.1.1.1.1, hr.1.1.1.2⟩) ⟨jPc_blind, j_pre C P D S sz as⟩ rfl (by rw [List.length_map]; exact hn) hl.1 rfl (lv_room (by rw [jcat_sum]; exact hr.1.1.2)) hd ⟨hr.1.2, hr.2⟩) S (j_afree D S C.2.2.2.2.2.1) hl (fun E w' h => h.elim) (fun r w' H1 locs1 hΦ hP hD hS => ?_)
  rw [jrt]
  exact kk r w' hΦ p e s m args below meth c A H1 locs1 ls C hP hD hS (fun h => by cases h) hl
end JRX
-- ===== the words of each throw =====
abbrev xRT : List String := ["java/lang/RuntimeException", "java/lang/Exception"]
theorem ft_ps {ws : List Cond} (ps : List Nat) (h : ws = ps.filterMap (fun i => tables_1[i]?)) (g : ws.all Cond.faceAtom = true) : ∀ w ∈ ws, w ∈ fT := by
  intro w hw
  have h1 := List.all_eq_true.mp g w hw
  rw [h] at hw
  obtain ⟨i, -, hi⟩ := List.mem_filterMap.mp hw
  exact List.mem_filter.mpr ⟨List.mem_of_getElem? hi, h1⟩
theorem gt_1 {w : Cond} (i : Nat) (h : lw_tbl[i]? = some w) (g : goodWord w = true) : w ∈ gT := List.mem_filter.mpr ⟨List.mem_of_getElem? h, g⟩
theorem xfit : ∀ n ∈ xRT, Bundle.fit n = true := by decide +kernel
theorem xw_Part_g : ∀ w ∈ (vx_at0 "RattleAtFifty$Part" 9 "java/lang/UnsupportedOperationException" xRT).filter goodWord, w ∈ gT := gt_ps [57, 866, 875, 879, 882, 884, 867, 868, 69, 70, 869, 874, 880, 897, 856, 898, 858, 899, 860, 870, 872, 862, 940, 941, 942, 889, 889, 890, 891, 892, 892, 893, 894, 867, 939, 931, 933, 878, 934, 935, 936, 937, 865, 864, 938] (by decide +kernel) (by decide +kernel)
theorem xw_Part_f : ∀ w ∈ (vx_at0 "RattleAtFifty$Part" 9 "java/lang/UnsupportedOperationException" xRT).filter (fun w => !goodWord w), w ∈ fT := ft_ps [807, 809, 811, 892] (by decide +kernel) (by decide +kernel)
theorem xw_Tinny_g : ∀ w ∈ (vx_at0 "RattleAtFifty$Tinny" 20 "java/lang/IllegalStateException" xRT).filter goodWord, w ∈ gT := gt_ps [57, 866, 875, 879, 882, 884, 867, 868, 69, 70, 869, 874, 880, 897, 856, 898, 858, 899, 860, 870, 872, 862, 924, 925, 926, 889, 889, 890, 891, 892, 892, 893, 894, 867, 923, 915, 917, 877, 918, 919, 920, 921, 865, 864, 922] (by decide +kernel) (by decide +kernel)
theorem xw_Tinny_f : ∀ w ∈ (vx_at0 "RattleAtFifty$Tinny" 20 "java/lang/IllegalStateException" xRT).filter (fun w => !goodWord w), w ∈ fT := ft_ps [807, 809, 811, 876] (by decide +kernel) (by decide +kernel)
theorem xw_Doubled_g : ∀ w ∈ (vx_at0 "RattleAtFifty$Doubled" 20 "java/lang/IllegalArgumentException" xRT).filter goodWord, w ∈ gT := gt_ps [57, 866, 875, 879, 882, 884, 867, 868, 69, 70, 869, 874, 880, 897, 856, 898, 858, 899, 860, 870, 872, 862, 886, 887, 888, 889, 889, 890, 891, 892, 892, 893, 894, 867, 885, 845, 853, 854, 855, 857, 859, 861, 865, 864, 863] (by decide +kernel) (by decide +kernel)
theorem xw_Doubled_f : ∀ w ∈ (vx_at0 "RattleAtFifty$Doubled" 20 "java/lang/IllegalArgumentException" xRT).filter (fun w => !goodWord w), w ∈ fT := ft_ps [807, 809, 811, 806] (by decide +kernel) (by decide +kernel)
theorem xw_T1_g : ∀ w ∈ (vx_atS "RattleAtFifty" 333 "java/lang/IllegalArgumentException" xRT).filter goodWord, w ∈ gT := gt_ps [57, 866, 875, 879, 882, 884, 867, 868, 69, 70, 869, 874, 880, 897, 856, 898, 858, 899, 860, 870, 872, 862, 965, 966, 896, 862, 956, 957, 958, 959, 959, 960, 961, 962, 962, 963, 964, 965, 955, 845, 853, 854, 855, 857, 859, 861, 865, 864, 863] (by decide +kernel) (by decide +kernel)
theorem xw_T1_f : ∀ w ∈ (vx_atS "RattleAtFifty" 333 "java/lang/IllegalArgumentException" xRT).filter (fun w => !goodWord w), w ∈ fT := ft_ps [808, 810, 812, 806] (by decide +kernel) (by decide +kernel)
theorem xw_T2_g : ∀ w ∈ (vx_atS "RattleAtFifty" 343 "java/lang/IllegalStateException" xRT).filter goodWord, w ∈ gT := gt_ps [57, 866, 875, 879, 882, 884, 867, 868, 69, 70, 869, 874, 880, 897, 856, 898, 858, 899, 860, 870, 872, 862, 965, 966, 896, 862, 969, 970, 971, 959, 959, 960, 961, 962, 962, 963, 964, 965, 968, 915, 917, 877, 918, 919, 920, 921, 865, 864, 922] (by decide +kernel) (by decide +kernel)
theorem xw_T2_f : ∀ w ∈ (vx_atS "RattleAtFifty" 343 "java/lang/IllegalStateException" xRT).filter (fun w => !goodWord w), w ∈ fT := ft_ps [808, 810, 812, 876] (by decide +kernel) (by decide +kernel)
theorem c_Part_fail {l : Launch} {N p : Nat} {w : AW} {fig : Int} (hl9 : l.stackTraces = false) (hf : -2147483648 ≤ fig ∧ fig ≤ 2147483647) : CallX l m_Part_fail N [aR p, aI fig] w (fun r w' => r = none ∧ w' = w ∧ ¬ 0 < fig) (fun E w' => E = "java/lang/UnsupportedOperationException" ∧ w' = w ∧ 0 < fig) := by
  refine CallX.of (L := [some (aR p), some (aI fig)]) rfl (Nat.le_of_ble_eq_true rfl) rfl (fun G ad => ?_)
  refine j_iload_n (pc' := 1) (z := fig) dX7_fail_0 rfl rfl ?_
  refine j_if_le (pc' := 4) (tgt := 12) dX7_fail_1 rfl rfl hf (fun h => ?_) (fun h => ?_)
  · refine j_wide (k9 := 1) (n9 := 6) (by decide) (by decide) (j_xret ?_)
    exact j_vret dX7_fail_12 rfl ⟨rfl, rfl, by omega⟩
  · exact j_throw0 (cls := "java/lang/UnsupportedOperationException") (names := xRT) hl9 dX7_fail_4 dX7_fail_7 dX7_fail_8 dX7_fail_11 (by decide +kernel) xfit (gt_1 930 (by decide +kernel) (by decide +kernel)) (gt_1 62 (by decide +kernel) (by decide +kernel)) xw_Part_g xw_Part_f (gt_1 929 (by decide +kernel) (by decide +kernel)) (by decide) ⟨rfl, rfl, by omega⟩
theorem c_Tinny_fail {l : Launch} {N p : Nat} {w : AW} {fig : Int} (hl9 : l.stackTraces = false) (hf : -2147483648 ≤ fig ∧ fig ≤ 2147483647) : CallX l m_Tinny_fail N [aR p, aI fig] w (fun r w' => r = none ∧ w' = w ∧ ¬ 0 < fig) (fun E w' => E = "java/lang/IllegalStateException" ∧ w' = w ∧ 0 < fig) := by
  refine CallX.of (L := [some (aR p), some (aI fig)]) rfl (Nat.le_of_ble_eq_true rfl) rfl (fun G ad => ?_)
  refine j_iload_n (pc' := 1) (z := fig) dX10_fail_0 rfl rfl ?_
  refine j_if_le (pc' := 4) (tgt := 12) dX10_fail_1 rfl rfl hf (fun h => ?_) (fun h => ?_)
  · refine j_wide (k9 := 1) (n9 := 6) (by decide) (by decide) (j_xret ?_)
    exact j_vret dX10_fail_12 rfl ⟨rfl, rfl, by omega⟩
  · exact j_throw0 (cls := "java/lang/IllegalStateException") (names := xRT) hl9 dX10_fail_4 dX10_fail_7 dX10_fail_8 dX10_fail_11 (by decide +kernel) xfit (gt_1 914 (by decide +kernel) (by decide +kernel)) (gt_1 61 (by decide +kernel) (by decide +kernel)) xw_Tinny_g xw_Tinny_f (gt_1 913 (by decide +kernel) (by decide +kernel)) (by decide) ⟨rfl, rfl, by omega⟩
theorem c_Doubled_fail {l : Launch} {N p : Nat} {w : AW} {fig : Int} (hl9 : l.stackTraces = false) (hf : -2147483648 ≤ fig ∧ fig ≤ 2147483647) : CallX l m_Doubled_fail N [aR p, aI fig] w (fun r w' => r = none ∧ w' = w ∧ ¬ 0 < fig) (fun E w' => E = "java/lang/IllegalArgumentException" ∧ w' = w ∧ 0 < fig) := by
  refine CallX.of (L := [some (aR p), some (aI fig)]) rfl (Nat.le_of_ble_eq_true rfl) rfl (fun G ad => ?_)
  refine j_iload_n (pc' := 1) (z := fig) dX3_fail_0 rfl rfl ?_
  refine j_if_le (pc' := 4) (tgt := 12) dX3_fail_1 rfl rfl hf (fun h => ?_) (fun h => ?_)
  · refine j_wide (k9 := 1) (n9 := 6) (by decide) (by decide) (j_xret ?_)
    exact j_vret dX3_fail_12 rfl ⟨rfl, rfl, by omega⟩
  · exact j_throw0 (cls := "java/lang/IllegalArgumentException") (names := xRT) hl9 dX3_fail_4 dX3_fail_7 dX3_fail_8 dX3_fail_11 (by decide +kernel) xfit (gt_1 844 (by decide +kernel) (by decide +kernel)) (gt_1 60 (by decide +kernel) (by decide +kernel)) xw_Doubled_g xw_Doubled_f (gt_1 843 (by decide +kernel) (by decide +kernel)) (by decide) ⟨rfl, rfl, by omega⟩
