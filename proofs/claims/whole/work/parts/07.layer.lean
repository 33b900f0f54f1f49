-- ===== what a method's start knows of the machine: KS (tables), ZS (statics) =====
def jtys (ca : Nat → ClassId) : List (ClassId × FieldType) := [(ca 0, .int), (ca 1, .long), (ca 2, .object "RattleAtFifty$Part"), (ca 3, .object "RattleAtFifty$Shelf")]
abbrev xIA : String := "java/lang/IllegalArgumentException"
abbrev xIS : String := "java/lang/IllegalStateException"
abbrev xUO : String := "java/lang/UnsupportedOperationException"
def NC (s : State) : Prop := va_Nc xIS xIA s ∧ va_Nc xUO xIA s ∧ va_Nc xUO xIS s
theorem NC.moved {s U : State} (h : s.vm.Alike U.vm) (n : NC s) : NC U := ⟨n.1.moved h, n.2.1.moved h, n.2.2.moved h⟩
def KS (G : JG) (s : State) : Prop := va_K (G.1, G.2.1) classes (jtys G.2.2) s ∧ (∀ w ∈ nT, va_Nw w s) ∧ (∀ w ∈ fT, va_Nw w s) ∧ va_AO "RattleAtFifty$Part" s ∧ va_AO "RattleAtFifty$Shelf" s ∧ (∃ a, vk_R "RattleAtFifty" 331 "no such shelf" a s) ∧ (∃ a, vk_R "RattleAtFifty" 341 "no row, or no such place in it" a s) ∧ NC s
theorem nw_warm {w : Cond} (hw : isNest w = true) {s U : State} (hW : s.WarmedH U.vm) (h : va_Nw w s) : va_Nw w U := by
  cases w <;> simp [isNest] at hw
  · exact va_Nw.warmM hW h
  · exact va_Nw.warmF hW h
theorem face_tab {w : Cond} (hw : w.faceAtom = true) : w.onTables = true := by
  cases w <;> simp [Cond.faceAtom] at hw <;> rfl
theorem fw_warm {w : Cond} (hw : w.faceAtom = true) {s U : State} (hW : s.WarmedH U.vm) (h : va_Nw w s) : va_Nw w U :=
  va_tabs (face_tab hw) (rfl : (s.setVm U.vm).vm = U.vm) (Cond.faceAtom_setVm (args := #[]) hW.alike w hw h)
theorem KS.warm {G : JG} {s U : State} (hW : s.WarmedH U.vm) (h : KS G s) : KS G U := by
  obtain ⟨h1, h2, h3, h4, h5, ⟨a, h6⟩, ⟨b, h7⟩, h8⟩ := h
  exact ⟨h1.moved hW.alike, fun w hw => nw_warm (List.mem_filter.mp hw).2 hW (h2 w hw), fun w hw => fw_warm (List.mem_filter.mp hw).2 hW (h3 w hw), h4.moved hW.alike, h5.moved hW.alike, ⟨a, h6.warm hW⟩, ⟨b, h7.warm hW⟩, h8.moved hW.alike⟩
theorem nest_tab {w : Cond} (hw : isNest w = true) : w.onTables = true := by
  cases w <;> simp [isNest] at hw <;> rfl
theorem KS.same {G : JG} {s U : State} (hv : U.vm = s.vm) (h : KS G s) : KS G U := by
  obtain ⟨h1, h2, h3, h4, h5, ⟨a, h6⟩, ⟨b, h7⟩, h8⟩ := h
  have hal : s.vm.Alike U.vm := by rw [hv]; exact Vm.Alike.refl _
  exact ⟨h1.moved hal, fun w hw => va_Nw.same (nest_tab (List.mem_filter.mp hw).2) hv.symm (h2 w hw), fun w hw => va_Nw.same (face_tab (List.mem_filter.mp hw).2) hv.symm (h3 w hw), h4.moved hal, h5.moved hal, ⟨a, h6.same hv⟩, ⟨b, h7.same hv⟩, h8.moved hal⟩
def mos (j : Int) : Int := if j = 0 then 99 else if j = 1 then 9 else if j = 2 then 5 else 40
def ZS (ad : Nat → Nat) (A : Nat → Prop) (s : State) (H : Heap) : Prop := va_Z "RattleAtFifty" "MOST_OF_SETTING" "[I" (.ref (ad 1000)) A s H ∧ va_T .int (ad 1000) 4 (fun j => .int (Int32.ofInt (mos j))) A s H ∧ vx_Zq Bundle.tN "UNASSIGNED_STACK" Bundle.steD A s H ∧ vx_Zq Bundle.tN "SUPPRESSED_SENTINEL" Bundle.listD A s H
theorem ZS.go {ad : Nat → Nat} {A B : Nat → Prop} {s U : State} {H H1 : Heap} (h : ZS ad A s H) (hal : s.vm.Alike U.vm) (hq : ∀ a : Nat, a < H.size → ¬ A a → H1[a]? = H[a]?) (hAB : ∀ q, B q → A q) : ZS ad B U H1 :=
  ⟨((h.1.moved hal).kept hq).narrow hAB, ((h.2.1.moved hal).kept hq).narrow hAB, ((h.2.2.1.moved hal).kept hq).narrow hAB, ((h.2.2.2.moved hal).kept hq).narrow hAB⟩
/-- the machine's side of a walk: fixed from a method's entry to its end -/
def JX (M : MI) (ad : Nat → Nat) (G : JG) (X : List (Nat × Nat × (Int → Int))) (al : Bool) (p : Program) (s : State) (m : MethodId) (args : Array Value) (meth : Method) (c : Code) (A : Nat → Prop) : Prop :=
  CallFix p m c M.2.1 M.2.2.1 s args gT M.1.cls ∧ meth.sig.returnType = M.2.2.2.1 ∧ meth.locks = false ∧ (meth.name = M.1.name ∧ s.methodNamed? M.1 = some m) ∧ KS G s ∧ (∀ q, s.heap.size ≤ q → A q) ∧ ZS ad A s s.heap ∧ (∀ x ∈ X, va_T .int (ad x.1) x.2.1 (fun j => .int (Int32.ofInt (x.2.2 j))) A s s.heap) ∧ (al = true → ∀ k, k < 900 → ad k = ad 0 + k)
abbrev JZ : Type := List Frame → Array Value → State → (Nat → Prop) → State → Prop
abbrev jP (G : JG) (ad : Nat → Nat) (w : AW) (N : Nat) (H : Heap) : Prop := va_P (G.1, G.2.1) classes (jw G.2.2 ad w N) H
abbrev jD (G : JG) (ad : Nat → Nat) (w : AW) (N : Nat) (A : Nat → Prop) : Prop := va_D A (jw G.2.2 ad w N)
/-- J: the machine at pc with locals L, stack st, world w (N cells), comes to Z -/
def J (l : Launch) (M : MI) (ad : Nat → Nat) (G : JG) (X : List (Nat × Nat × (Int → Int))) (al : Bool) (Z : JZ) (N cells slots pc : Nat) (L : List (Option AV)) (st : List AV) (w : AW) : Prop :=
  ∀ (p : Program) (e : Env) (s : State) (m : MethodId) (args : Array Value) (below : List Frame) (meth : Method) (c : Code) (A : Nat → Prop) (H : Heap) (locs : List Loc) (ls : Array Slot),
    JX M ad G X al p s m args meth c A → jP G ad w N H → jD G ad w N A → va_S A s.heap H locs → (al = true → H.size = ad N) → jl ad ls M.2.2.1 L →
    W p l e M.2.2.2.2 s m args below meth c H locs cells slots (Z below args s A) (F0 m pc ls (st.map (jv ad)))
def jQ (ad : Nat → Nat) (G : JG) (al : Bool) (N' : Nat) (A : Nat → Prop) (Φ : Option AV → AW → Prop) : Array Value → State → Outcome → State → Prop := fun _ st oc t =>
  (∃ (r : Option AV) (w' : AW), oc = .returned (r.map (jv ad)) ∧ Φ r w' ∧ jP G ad w' N' t.heap ∧ jD G ad w' N' A ∧ (al = true → t.heap.size = ad N')) ∧ va_F A st t
def jZ (ad : Nat → Nat) (G : JG) (al : Bool) (N' mc ms : Nat) (Φ : Option AV → AW → Prop) : JZ := fun below args s A => MQ below (jQ ad G al N' A Φ) args s mc ms A
def jws (M : MI) : List Cond := .code M.1 M.2.1 M.2.2.1 M.2.2.2.1 :: gT
def jPc (ad : Nat → Nat) (G : JG) (al : Bool) (N sz : Nat) (avs : List AV) (w : AW) : Array Value → State → Prop :=
  va_Pc (avs.map (jv ad)) (fun U => U.heap.size = sz ∧ jP G ad w N U.heap ∧ jD G ad w N (fun _ => True) ∧ KS G U ∧ ZS ad (va_A (jw G.2.2 ad w N) sz) U U.heap ∧ (al = true → sz = ad N ∧ ∀ k, k < 900 → ad k = ad 0 + k))
theorem jPc_blind {ad : Nat → Nat} {G : JG} {al : Bool} {N sz : Nat} {avs : List AV} {w : AW} : FrameBlind (jPc ad G al N sz avs w) := by
  rintro a U g mk ⟨h1, h2, h3, h4, h5, h6, h7⟩
  exact ⟨h1, h2, h3, h4, KS.same (s := U) rfl h5, ZS.go (s := U) h6 (Vm.Alike.refl _) (fun _ _ _ => rfl) (fun _ h => h), h7⟩
/-- a method's contract: at these arguments, in this world, it returns with Φ -/
def Call (l : Launch) (M : MI) (al : Bool) (N N' : Nat) (avs : List AV) (w : AW) (Φ : Option AV → AW → Prop) : Prop :=
  ∀ (G : JG) (ad : Nat → Nat) (sz : Nat), Met l M.1 (jws M) M.2.2.2.2 (jPc ad G al N sz avs w) (jQ ad G al N' (va_A (jw G.2.2 ad w N) sz) Φ) M.2.2.2.2.cells M.2.2.2.2.slots (va_A (jw G.2.2 ad w N) sz)
theorem Call.of {l : Launch} {M : MI} {al : Bool} {N N' : Nat} {avs : List AV} {w : AW} {Φ : Option AV → AW → Prop} {L : List (Option AV)} (hy : plainName M.1.cls = true) (hn : (entL avs).length ≤ M.2.2.1) (hL : entL avs ++ List.replicate (M.2.2.1 - (entL avs).length) none = L)
    (k : ∀ (G : JG) (ad : Nat → Nat), J l M ad G [] al (jZ ad G al N' M.2.2.2.2.cells M.2.2.2.2.slots Φ) N 0 0 0 L [] w) : Call l M al N N' avs w Φ := by
  intro G ad sz
  refine Met.ofW (cc := M.2.1) (maxL := M.2.2.1) (ret := M.2.2.2.1) hy rfl ?_
  intro p e s m args below meth c s₁ B hml hv
  obtain ⟨rfl, hsz, hP, hD0, hK, hZ, hal⟩ := hv
  have hts := atoms_spec (ws := jws M) B.pre
  have hown : s.vm.findClass M.1.cls = some m.cls := findClass_of_methodNamed B.named
  subst hsz
  have hD := hD0.self (sz := s.heap.size)
  have hlen : (lg_sl (avs.map (jv ad))).length = (entL avs).length := by
    clear hn hL k hP hD0 hK hZ hal B hts hD
    induction avs with
    | nil => rfl
    | cons v r ih =>
      rcases v with z | z | _ | z <;> simp only [List.map_cons, jv, lg_sl, List.flatMap_cons, entL, List.length_append, List.length_cons] <;> (try simp only [lg_sl] at ih) <;> rw [ih] <;> simp [Value.category] <;> omega
  have hl := lv_entry (avs.map (jv ad)) (n := M.2.2.1) (by rw [hlen]; exact hn)
  rw [lg_entry_eq]
  generalize (lg_sl (avs.map (jv ad)) ++ List.replicate (M.2.2.1 - (lg_sl (avs.map (jv ad))).length) Slot.unset).toArray = ls at hl ⊢
  have hl2 : jl ad ls M.2.2.1 L := by
    unfold jl
    rw [← hL, jll_app, jll_ent]
    exact hl
  exact k G ad p e s m _ below meth c (va_A (jw G.2.2 ad w N) s.heap.size) s.heap [] ls ⟨⟨B.exec, B.bytes, hml, hown, fun w hw => hts w (List.mem_cons_of_mem _ hw)⟩, B.returns, B.notSynchronized, ⟨(name_of_methodNamed B.named B.method).1, B.named⟩, hK, fun q h => Or.inr h, hZ, fun x hx => absurd hx List.not_mem_nil, fun ha => (hal ha).2⟩ hP hD va_S.rf (fun ha => (hal ha).1) hl2
section JR
variable {l : Launch} {M Mc : MI} {ad : Nat → Nat} {G : JG} {X : List (Nat × Nat × (Int → Int))} {al : Bool} {Z : JZ} {N cells slots pc pc' : Nat} {L L' : List (Option AV)} {st : List AV} {w : AW}
abbrev JD (M : MI) (pc : Nat) (i : Instr) (n : Nat) : Prop := decode M.2.1 pc = .ok (i, n)
-- pure pushes
theorem j_iconst {n : Int} (hd : JD M pc (.iconst n) 1) (hp : pc + 1 = pc') (k : J l M ad G X al Z N cells slots pc' L (aI n :: st) w) : J l M ad G X al Z N cells slots pc L st w := by
  subst hp
  intro p e s m args below meth c A H locs ls C P D S sz hl
  exact lv_iconst C.1.1 C.1.2.1 hd rfl (k p e s m args below meth c A H locs ls C P D S sz hl)
theorem j_bipush {n : Int} (hd : JD M pc (.bipush n) 2) (hp : pc + 2 = pc') (hn : (Int8.ofInt n).toInt32 = Int32.ofInt n) (k : J l M ad G X al Z N cells slots pc' L (aI n :: st) w) : J l M ad G X al Z N cells slots pc L st w := by
  subst hp
  intro p e s m args below meth c A H locs ls C P D S sz hl
  exact lv_bipush C.1.1 C.1.2.1 hd hn (k p e s m args below meth c A H locs ls C P D S sz hl)
theorem j_sipush {n : Int} (hd : JD M pc (.sipush n) 3) (hp : pc + 3 = pc') (hn : (Int16.ofInt n).toInt32 = Int32.ofInt n) (k : J l M ad G X al Z N cells slots pc' L (aI n :: st) w) : J l M ad G X al Z N cells slots pc L st w := by
  subst hp
  intro p e s m args below meth c A H locs ls C P D S sz hl
  exact lv_sipush C.1.1 C.1.2.1 hd hn (k p e s m args below meth c A H locs ls C P D S sz hl)
theorem j_ldc {i : Nat} {v : Int32} {n : Int} (hd : JD M pc (.ldc i) 2) (hp : pc + 2 = pc') (hw : Cond.constant M.1.cls i v ∈ gT) (hn : v = Int32.ofInt n) (k : J l M ad G X al Z N cells slots pc' L (aI n :: st) w) : J l M ad G X al Z N cells slots pc L st w := by
  subst hp; subst hn
  intro p e s m args below meth c A H locs ls C P D S sz hl
  exact lv_ldc C.1.1 C.1.2.1 C.1.2.2.2.1 (C.1.2.2.2.2 _ hw) hd (k p e s m args below meth c A H locs ls C P D S sz hl)
theorem j_ldcw {i : Nat} {v : Int32} {n : Int} (hd : JD M pc (.ldc_w i) 3) (hp : pc + 3 = pc') (hw : Cond.constant M.1.cls i v ∈ gT) (hn : v = Int32.ofInt n) (k : J l M ad G X al Z N cells slots pc' L (aI n :: st) w) : J l M ad G X al Z N cells slots pc L st w := by
  subst hp; subst hn
  intro p e s m args below meth c A H locs ls C P D S sz hl
  exact lv_ldcw C.1.1 C.1.2.1 C.1.2.2.2.1 (C.1.2.2.2.2 _ hw) hd (k p e s m args below meth c A H locs ls C P D S sz hl)
theorem j_ldc2 {i : Nat} {v : Int64} {n : Int} (hd : JD M pc (.ldc2_w i) 3) (hp : pc + 3 = pc') (hw : Cond.constantLong M.1.cls i v ∈ gT) (hn : v = Int64.ofInt n) (k : J l M ad G X al Z N cells slots pc' L (aL n :: st) w) : J l M ad G X al Z N cells slots pc L st w := by
  subst hp; subst hn
  intro p e s m args below meth c A H locs ls C P D S sz hl
  exact lv_ldc2 C.1.1 C.1.2.1 C.1.2.2.2.1 (C.1.2.2.2.2 _ hw) hd (k p e s m args below meth c A H locs ls C P D S sz hl)
theorem j_lconst {n : Fin 2} {z : Int} (hd : JD M pc (.lconst n) 1) (hp : pc + 1 = pc') (hz : ((n : Nat) : Int) = z) (k : J l M ad G X al Z N cells slots pc' L (aL z :: st) w) : J l M ad G X al Z N cells slots pc L st w := by
  subst hp; subst hz
  intro p e s m args below meth c A H locs ls C P D S sz hl
  exact lv_lconst C.1.1 C.1.2.1 hd rfl (k p e s m args below meth c A H locs ls C P D S sz hl)
theorem j_iload_n {i : Fin 4} {z : Int} (hd : JD M pc (.iload_n i) 1) (hp : pc + 1 = pc') (hL : L[(i : Nat)]? = some (some (aI z))) (k : J l M ad G X al Z N cells slots pc' L (aI z :: st) w) : J l M ad G X al Z N cells slots pc L st w := by
  subst hp
  intro p e s m args below meth c A H locs ls C P D S sz hl
  exact lv_iload_n C.1.1 C.1.2.1 hd rfl (jl_at hl hL) (k p e s m args below meth c A H locs ls C P D S sz hl)
theorem j_iload {i : Nat} {z : Int} (hd : JD M pc (.iload i) 2) (hp : pc + 2 = pc') (hL : L[i]? = some (some (aI z))) (k : J l M ad G X al Z N cells slots pc' L (aI z :: st) w) : J l M ad G X al Z N cells slots pc L st w := by
  subst hp
  intro p e s m args below meth c A H locs ls C P D S sz hl
  exact lv_iload C.1.1 C.1.2.1 hd (jl_at hl hL) (k p e s m args below meth c A H locs ls C P D S sz hl)
theorem j_lload_n {i : Fin 4} {z : Int} (hd : JD M pc (.lload_n i) 1) (hp : pc + 1 = pc') (hL : L[(i : Nat)]? = some (some (aL z))) (k : J l M ad G X al Z N cells slots pc' L (aL z :: st) w) : J l M ad G X al Z N cells slots pc L st w := by
  subst hp
  intro p e s m args below meth c A H locs ls C P D S sz hl
  exact lv_lload_n C.1.1 C.1.2.1 hd rfl (jl_at hl hL) (k p e s m args below meth c A H locs ls C P D S sz hl)
theorem j_lload {i : Nat} {z : Int} (hd : JD M pc (.lload i) 2) (hp : pc + 2 = pc') (hL : L[i]? = some (some (aL z))) (k : J l M ad G X al Z N cells slots pc' L (aL z :: st) w) : J l M ad G X al Z N cells slots pc L st w := by
  subst hp
  intro p e s m args below meth c A H locs ls C P D S sz hl
  exact lv_lload C.1.1 C.1.2.1 hd (jl_at hl hL) (k p e s m args below meth c A H locs ls C P D S sz hl)
theorem j_aload_n {i : Fin 4} {z : Nat} (hd : JD M pc (.aload_n i) 1) (hp : pc + 1 = pc') (hL : L[(i : Nat)]? = some (some (aR z))) (k : J l M ad G X al Z N cells slots pc' L (aR z :: st) w) : J l M ad G X al Z N cells slots pc L st w := by
  subst hp
  intro p e s m args below meth c A H locs ls C P D S sz hl
  exact lv_aload_n C.1.1 C.1.2.1 hd rfl (jl_at hl hL) (k p e s m args below meth c A H locs ls C P D S sz hl)
theorem j_aload {i : Nat} {z : Nat} (hd : JD M pc (.aload i) 2) (hp : pc + 2 = pc') (hL : L[i]? = some (some (aR z))) (k : J l M ad G X al Z N cells slots pc' L (aR z :: st) w) : J l M ad G X al Z N cells slots pc L st w := by
  subst hp
  intro p e s m args below meth c A H locs ls C P D S sz hl
  exact lv_aload C.1.1 C.1.2.1 hd (jl_at hl hL) (k p e s m args below meth c A H locs ls C P D S sz hl)
-- stores into locals
theorem j_istore_n {i : Fin 4} {z : Int} (hd : JD M pc (.istore_n i) 1) (hp : pc + 1 = pc') (hi : (i : Nat) < M.2.2.1) (hL : (cutL L i).set i (some (aI z)) = L') (k : J l M ad G X al Z N cells slots pc' L' st w) : J l M ad G X al Z N cells slots pc L (aI z :: st) w := by
  subst hp
  intro p e s m args below meth c A H locs ls C P D S sz hl
  exact lv_istore_n C.1.1 C.1.2.1 hd rfl hl hi rfl (fun ls' hl' => k p e s m args below meth c A H locs ls' C P D S sz (jl_store1 hL hl'))
theorem j_istore {i : Nat} {z : Int} (hd : JD M pc (.istore i) 2) (hp : pc + 2 = pc') (hi : i < M.2.2.1) (hL : (cutL L i).set i (some (aI z)) = L') (k : J l M ad G X al Z N cells slots pc' L' st w) : J l M ad G X al Z N cells slots pc L (aI z :: st) w := by
  subst hp
  intro p e s m args below meth c A H locs ls C P D S sz hl
  exact lv_istore C.1.1 C.1.2.1 hd hl hi rfl (fun ls' hl' => k p e s m args below meth c A H locs ls' C P D S sz (jl_store1 hL hl'))
theorem j_astore_n {i : Fin 4} {z : Nat} (hd : JD M pc (.astore_n i) 1) (hp : pc + 1 = pc') (hi : (i : Nat) < M.2.2.1) (hL : (cutL L i).set i (some (aR z)) = L') (k : J l M ad G X al Z N cells slots pc' L' st w) : J l M ad G X al Z N cells slots pc L (aR z :: st) w := by
  subst hp
  intro p e s m args below meth c A H locs ls C P D S sz hl
  exact lv_astore_n C.1.1 C.1.2.1 hd rfl hl hi rfl (fun ls' hl' => k p e s m args below meth c A H locs ls' C P D S sz (jl_store1 (v := aR z) hL hl'))
theorem j_astore {i : Nat} {z : Nat} (hd : JD M pc (.astore i) 2) (hp : pc + 2 = pc') (hi : i < M.2.2.1) (hL : (cutL L i).set i (some (aR z)) = L') (k : J l M ad G X al Z N cells slots pc' L' st w) : J l M ad G X al Z N cells slots pc L (aR z :: st) w := by
  subst hp
  intro p e s m args below meth c A H locs ls C P D S sz hl
  exact lv_astore C.1.1 C.1.2.1 hd hl hi rfl (fun ls' hl' => k p e s m args below meth c A H locs ls' C P D S sz (jl_store1 (v := aR z) hL hl'))
theorem j_lstore_n {i : Fin 4} {z : Int} (hd : JD M pc (.lstore_n i) 1) (hp : pc + 1 = pc') (hi : (i : Nat) + 1 < M.2.2.1) (hL : ((cutL L i).set (i + 1) none).set i (some (aL z)) = L') (k : J l M ad G X al Z N cells slots pc' L' st w) : J l M ad G X al Z N cells slots pc L (aL z :: st) w := by
  subst hp
  intro p e s m args below meth c A H locs ls C P D S sz hl
  exact lv_lstore_n C.1.1 C.1.2.1 hd rfl hl hi rfl (fun ls' hl' => k p e s m args below meth c A H locs ls' C P D S sz (jl_store2 hL hl'))
theorem j_lstore {i : Nat} {z : Int} (hd : JD M pc (.lstore i) 2) (hp : pc + 2 = pc') (hi : i + 1 < M.2.2.1) (hL : ((cutL L i).set (i + 1) none).set i (some (aL z)) = L') (k : J l M ad G X al Z N cells slots pc' L' st w) : J l M ad G X al Z N cells slots pc L (aL z :: st) w := by
  subst hp
  intro p e s m args below meth c A H locs ls C P D S sz hl
  exact lv_lstore C.1.1 C.1.2.1 hd hl hi rfl (fun ls' hl' => k p e s m args below meth c A H locs ls' C P D S sz (jl_store2 hL hl'))
theorem jll_idx {L : List (Option AV)} {i : Nat} {v : AV} (h : L[i]? = some (some v)) : ∃ k : Nat, (jll ad 0 L)[k]? = some (i, jv ad v) := by
  obtain ⟨k, hk⟩ := List.getElem?_of_mem ((jll_mem (ad := ad) L 0 (i, jv ad v)).mpr ⟨i, v, h, by simp, rfl⟩)
  exact ⟨k, hk⟩
theorem j_iinc {i : Nat} {n z z' : Int} (hd : JD M pc (.iinc i n) 3) (hp : pc + 3 = pc') (hi : i < M.2.2.1) (h0 : L[i]? = some (some (aI z))) (hz : z + n = z') (hL : (cutL L i).set i (some (aI z')) = L') (k : J l M ad G X al Z N cells slots pc' L' st w) : J l M ad G X al Z N cells slots pc L st w := by
  subst hp; subst hz
  intro p e s m args below meth c A H locs ls C P D S sz hl
  obtain ⟨k0, hk0⟩ := jll_idx (ad := ad) h0
  exact lv_iinc (v := Int32.ofInt (z + n)) C.1.1 C.1.2.1 hd hl hk0 (by rw [Int32.ofInt_add]) hi rfl (fun ls' hl' => k p e s m args below meth c A H locs ls' C P D S sz (jl_store1 hL hl'))
-- arithmetic
theorem j_iadd {a b : Int} (hd : JD M pc .iadd 1) (hp : pc + 1 = pc') (k : J l M ad G X al Z N cells slots pc' L (aI (a + b) :: st) w) : J l M ad G X al Z N cells slots pc L (aI b :: aI a :: st) w := by
  subst hp
  intro p e s m args below meth c A H locs ls C P D S sz hl
  refine lv_iadd C.1.1 C.1.2.1 hd ?_
  rw [← Int32.ofInt_add]
  exact k p e s m args below meth c A H locs ls C P D S sz hl
theorem j_isub {a b : Int} (hd : JD M pc .isub 1) (hp : pc + 1 = pc') (k : J l M ad G X al Z N cells slots pc' L (aI (a - b) :: st) w) : J l M ad G X al Z N cells slots pc L (aI b :: aI a :: st) w := by
  subst hp
  intro p e s m args below meth c A H locs ls C P D S sz hl
  refine lv_isub C.1.1 C.1.2.1 hd ?_
  rw [← Int32.ofInt_sub]
  exact k p e s m args below meth c A H locs ls C P D S sz hl
theorem j_imul {a b : Int} (hd : JD M pc .imul 1) (hp : pc + 1 = pc') (k : J l M ad G X al Z N cells slots pc' L (aI (a * b) :: st) w) : J l M ad G X al Z N cells slots pc L (aI b :: aI a :: st) w := by
  subst hp
  intro p e s m args below meth c A H locs ls C P D S sz hl
  refine lv_imul C.1.1 C.1.2.1 hd ?_
  rw [← Int32.ofInt_mul]
  exact k p e s m args below meth c A H locs ls C P D S sz hl
theorem j_ineg {a : Int} (hd : JD M pc .ineg 1) (hp : pc + 1 = pc') (k : J l M ad G X al Z N cells slots pc' L (aI (-a) :: st) w) : J l M ad G X al Z N cells slots pc L (aI a :: st) w := by
  subst hp
  intro p e s m args below meth c A H locs ls C P D S sz hl
  refine lv_ineg C.1.1 C.1.2.1 hd ?_
  rw [← Int32.ofInt_neg]
  exact k p e s m args below meth c A H locs ls C P D S sz hl
theorem j_ladd {a b : Int} (hd : JD M pc .ladd 1) (hp : pc + 1 = pc') (k : J l M ad G X al Z N cells slots pc' L (aL (a + b) :: st) w) : J l M ad G X al Z N cells slots pc L (aL b :: aL a :: st) w := by
  subst hp
  intro p e s m args below meth c A H locs ls C P D S sz hl
  refine lv_ladd C.1.1 C.1.2.1 hd ?_
  rw [← Int64.ofInt_add]
  exact k p e s m args below meth c A H locs ls C P D S sz hl
theorem j_lsub {a b : Int} (hd : JD M pc .lsub 1) (hp : pc + 1 = pc') (k : J l M ad G X al Z N cells slots pc' L (aL (a - b) :: st) w) : J l M ad G X al Z N cells slots pc L (aL b :: aL a :: st) w := by
  subst hp
  intro p e s m args below meth c A H locs ls C P D S sz hl
  refine lv_lsub C.1.1 C.1.2.1 hd ?_
  rw [← Int64.ofInt_sub]
  exact k p e s m args below meth c A H locs ls C P D S sz hl
theorem j_lmul {a b : Int} (hd : JD M pc .lmul 1) (hp : pc + 1 = pc') (k : J l M ad G X al Z N cells slots pc' L (aL (a * b) :: st) w) : J l M ad G X al Z N cells slots pc L (aL b :: aL a :: st) w := by
  subst hp
  intro p e s m args below meth c A H locs ls C P D S sz hl
  refine lv_lmul C.1.1 C.1.2.1 hd ?_
  rw [← Int64.ofInt_mul]
  exact k p e s m args below meth c A H locs ls C P D S sz hl
theorem j_i2l {a : Int} (hd : JD M pc .i2l 1) (hp : pc + 1 = pc') (ha : -2147483648 ≤ a ∧ a ≤ 2147483647) (k : J l M ad G X al Z N cells slots pc' L (aL a :: st) w) : J l M ad G X al Z N cells slots pc L (aI a :: st) w := by
  subst hp
  intro p e s m args below meth c A H locs ls C P D S sz hl
  refine lv_i2l (v := Int64.ofInt a) C.1.1 C.1.2.1 hd ?_ (k p e s m args below meth c A H locs ls C P D S sz hl)
  apply Int64.toInt_inj.mp
  rw [Int32.toInt_toInt64, Int32.toInt_ofInt_of_le (by omega) (by omega), Int64.toInt_ofInt_of_le (by omega) (by omega)]
-- stack
theorem j_dup {v : AV} (hd : JD M pc .dup 1) (hp : pc + 1 = pc') (hc : jcat v = 1) (k : J l M ad G X al Z N cells slots pc' L (v :: v :: st) w) : J l M ad G X al Z N cells slots pc L (v :: st) w := by
  subst hp
  intro p e s m args below meth c A H locs ls C P D S sz hl
  exact lv_dup C.1.1 C.1.2.1 hd (by rw [jv_cat]; exact hc) (k p e s m args below meth c A H locs ls C P D S sz hl)
theorem j_dup2 {v u : AV} (hd : JD M pc .dup2 1) (hp : pc + 1 = pc') (hc : jcat v = 1) (hu : jcat u = 1) (k : J l M ad G X al Z N cells slots pc' L (v :: u :: v :: u :: st) w) : J l M ad G X al Z N cells slots pc L (v :: u :: st) w := by
  subst hp
  intro p e s m args below meth c A H locs ls C P D S sz hl
  exact lv_dup2_11 C.1.1 C.1.2.1 hd (by rw [jv_cat]; exact hc) (by rw [jv_cat]; exact hu) (k p e s m args below meth c A H locs ls C P D S sz hl)
theorem j_pop {v : AV} (hd : JD M pc .pop 1) (hp : pc + 1 = pc') (hc : jcat v = 1) (k : J l M ad G X al Z N cells slots pc' L st w) : J l M ad G X al Z N cells slots pc L (v :: st) w := by
  subst hp
  intro p e s m args below meth c A H locs ls C P D S sz hl
  exact lv_pop C.1.1 C.1.2.1 hd (by rw [jv_cat]; exact hc) (k p e s m args below meth c A H locs ls C P D S sz hl)
-- branches
theorem j_goto {off : Int} (hd : JD M pc (.goto off) 3) (hp : (pc : Int) + off = (pc' : Int)) (k : J l M ad G X al Z N cells slots pc' L st w) : J l M ad G X al Z N cells slots pc L st w := by
  intro p e s m args below meth c A H locs ls C P D S sz hl
  exact lv_goto C.1.1 C.1.2.1 hd hp (k p e s m args below meth c A H locs ls C P D S sz hl)
end JR
