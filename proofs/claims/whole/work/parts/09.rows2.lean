def PS (own : String) (idx ci k : Nat) (fin : Bool) (ty : FieldType) : Prop := ∃ q, classes[ci]? = some q ∧ k < q.2.2 ∧ Cond.fieldLink own idx (q.2.1 k).1 (q.2.1 k).2.1 (q.2.1 k).2.2.1 ∈ gT ∧ (q.2.1 k).2.2.2 = fin ∧ parseFieldDescriptor (q.2.1 k).2.2.1 = some ty ∧ (q.2.1 k).1 = own
theorem p_Top_31 : PS "RattleAtFifty" 31 10 4 true (.array (.object "RattleAtFifty$Part")) := ⟨_, rfl, by decide, gt_ps (ws := [.fieldLink "RattleAtFifty" 31 "RattleAtFifty" "kinds" "[LRattleAtFifty$Part;"]) [213] (by decide +kernel) (by decide +kernel) _ List.mem_cons_self, rfl, by decide +kernel, rfl⟩
theorem p_Top_42 : PS "RattleAtFifty" 42 10 0 true (.object "RattleAtFifty$Car") := ⟨_, rfl, by decide, gt_ps (ws := [.fieldLink "RattleAtFifty" 42 "RattleAtFifty" "car" "LRattleAtFifty$Car;"]) [209] (by decide +kernel) (by decide +kernel) _ List.mem_cons_self, rfl, by decide +kernel, rfl⟩
theorem p_Top_46 : PS "RattleAtFifty" 46 10 1 true (.object "RattleAtFifty$Car") := ⟨_, rfl, by decide, gt_ps (ws := [.fieldLink "RattleAtFifty" 46 "RattleAtFifty" "trial" "LRattleAtFifty$Car;"]) [210] (by decide +kernel) (by decide +kernel) _ List.mem_cons_self, rfl, by decide +kernel, rfl⟩
theorem p_Top_49 : PS "RattleAtFifty" 49 10 2 true (.object "RattleAtFifty$Car") := ⟨_, rfl, by decide, gt_ps (ws := [.fieldLink "RattleAtFifty" 49 "RattleAtFifty" "imaged" "LRattleAtFifty$Car;"]) [211] (by decide +kernel) (by decide +kernel) _ List.mem_cons_self, rfl, by decide +kernel, rfl⟩
theorem p_Top_52 : PS "RattleAtFifty" 52 10 3 false (.boolean) := ⟨_, rfl, by decide, gt_ps (ws := [.fieldLink "RattleAtFifty" 52 "RattleAtFifty" "hasImage" "Z"]) [212] (by decide +kernel) (by decide +kernel) _ List.mem_cons_self, rfl, by decide +kernel, rfl⟩
theorem p_Top_58 : PS "RattleAtFifty" 58 10 5 true (.array (.object "RattleAtFifty$Shelf")) := ⟨_, rfl, by decide, gt_ps (ws := [.fieldLink "RattleAtFifty" 58 "RattleAtFifty" "shelves" "[LRattleAtFifty$Shelf;"]) [214] (by decide +kernel) (by decide +kernel) _ List.mem_cons_self, rfl, by decide +kernel, rfl⟩
theorem p_Top_63 : PS "RattleAtFifty" 63 10 6 true (.array .int) := ⟨_, rfl, by decide, gt_ps (ws := [.fieldLink "RattleAtFifty" 63 "RattleAtFifty" "pool" "[I"]) [215] (by decide +kernel) (by decide +kernel) _ List.mem_cons_self, rfl, by decide +kernel, rfl⟩
theorem p_Top_67 : PS "RattleAtFifty" 67 10 7 true (.array .int) := ⟨_, rfl, by decide, gt_ps (ws := [.fieldLink "RattleAtFifty" 67 "RattleAtFifty" "digits" "[I"]) [216] (by decide +kernel) (by decide +kernel) _ List.mem_cons_self, rfl, by decide +kernel, rfl⟩
theorem p_Mod_9 : PS "RattleAtFiftyModel" 9 11 0 true (.array .int) := ⟨_, rfl, by decide, gt_ps (ws := [.fieldLink "RattleAtFiftyModel" 9 "RattleAtFiftyModel" "s" "[I"]) [979] (by decide +kernel) (by decide +kernel) _ List.mem_cons_self, rfl, by decide +kernel, rfl⟩
theorem p_Mod_13 : PS "RattleAtFiftyModel" 13 11 1 true (.array .int) := ⟨_, rfl, by decide, gt_ps (ws := [.fieldLink "RattleAtFiftyModel" 13 "RattleAtFiftyModel" "m" "[I"]) [980] (by decide +kernel) (by decide +kernel) _ List.mem_cons_self, rfl, by decide +kernel, rfl⟩
theorem p_Mod_16 : PS "RattleAtFiftyModel" 16 11 2 true (.array .int) := ⟨_, rfl, by decide, gt_ps (ws := [.fieldLink "RattleAtFiftyModel" 16 "RattleAtFiftyModel" "image" "[I"]) [981] (by decide +kernel) (by decide +kernel) _ List.mem_cons_self, rfl, by decide +kernel, rfl⟩
theorem p_Mod_19 : PS "RattleAtFiftyModel" 19 11 3 true (.array .int) := ⟨_, rfl, by decide, gt_ps (ws := [.fieldLink "RattleAtFiftyModel" 19 "RattleAtFiftyModel" "was" "[I"]) [982] (by decide +kernel) (by decide +kernel) _ List.mem_cons_self, rfl, by decide +kernel, rfl⟩
theorem p_Mod_22 : PS "RattleAtFiftyModel" 22 11 8 true (.array .int) := ⟨_, rfl, by decide, gt_ps (ws := [.fieldLink "RattleAtFiftyModel" 22 "RattleAtFiftyModel" "numbers" "[I"]) [987] (by decide +kernel) (by decide +kernel) _ List.mem_cons_self, rfl, by decide +kernel, rfl⟩
theorem p_Mod_25 : PS "RattleAtFiftyModel" 25 11 9 true (.array .int) := ⟨_, rfl, by decide, gt_ps (ws := [.fieldLink "RattleAtFiftyModel" 25 "RattleAtFiftyModel" "halved" "[I"]) [988] (by decide +kernel) (by decide +kernel) _ List.mem_cons_self, rfl, by decide +kernel, rfl⟩
theorem p_Mod_28 : PS "RattleAtFiftyModel" 28 11 10 true (.array .int) := ⟨_, rfl, by decide, gt_ps (ws := [.fieldLink "RattleAtFiftyModel" 28 "RattleAtFiftyModel" "figures" "[I"]) [989] (by decide +kernel) (by decide +kernel) _ List.mem_cons_self, rfl, by decide +kernel, rfl⟩
theorem p_Mod_31 : PS "RattleAtFiftyModel" 31 11 13 true (.array .int) := ⟨_, rfl, by decide, gt_ps (ws := [.fieldLink "RattleAtFiftyModel" 31 "RattleAtFiftyModel" "kept" "[I"]) [992] (by decide +kernel) (by decide +kernel) _ List.mem_cons_self, rfl, by decide +kernel, rfl⟩
theorem p_Mod_34 : PS "RattleAtFiftyModel" 34 11 14 true (.array .int) := ⟨_, rfl, by decide, gt_ps (ws := [.fieldLink "RattleAtFiftyModel" 34 "RattleAtFiftyModel" "keptKind" "[I"]) [993] (by decide +kernel) (by decide +kernel) _ List.mem_cons_self, rfl, by decide +kernel, rfl⟩
theorem p_Mod_37 : PS "RattleAtFiftyModel" 37 11 15 true (.array .int) := ⟨_, rfl, by decide, gt_ps (ws := [.fieldLink "RattleAtFiftyModel" 37 "RattleAtFiftyModel" "keptFigure" "[I"]) [994] (by decide +kernel) (by decide +kernel) _ List.mem_cons_self, rfl, by decide +kernel, rfl⟩
theorem p_Mod_40 : PS "RattleAtFiftyModel" 40 11 16 true (.array .int) := ⟨_, rfl, by decide, gt_ps (ws := [.fieldLink "RattleAtFiftyModel" 40 "RattleAtFiftyModel" "sort" "[I"]) [995] (by decide +kernel) (by decide +kernel) _ List.mem_cons_self, rfl, by decide +kernel, rfl⟩
theorem p_Mod_43 : PS "RattleAtFiftyModel" 43 11 17 true (.array .int) := ⟨_, rfl, by decide, gt_ps (ws := [.fieldLink "RattleAtFiftyModel" 43 "RattleAtFiftyModel" "size" "[I"]) [996] (by decide +kernel) (by decide +kernel) _ List.mem_cons_self, rfl, by decide +kernel, rfl⟩
theorem p_Mod_46 : PS "RattleAtFiftyModel" 46 11 18 true (.array .int) := ⟨_, rfl, by decide, gt_ps (ws := [.fieldLink "RattleAtFiftyModel" 46 "RattleAtFiftyModel" "element" "[I"]) [997] (by decide +kernel) (by decide +kernel) _ List.mem_cons_self, rfl, by decide +kernel, rfl⟩
theorem p_Mod_85 : PS "RattleAtFiftyModel" 85 11 5 false (.int) := ⟨_, rfl, by decide, gt_ps (ws := [.fieldLink "RattleAtFiftyModel" 85 "RattleAtFiftyModel" "place" "I"]) [984] (by decide +kernel) (by decide +kernel) _ List.mem_cons_self, rfl, by decide +kernel, rfl⟩
theorem p_Mod_92 : PS "RattleAtFiftyModel" 92 11 6 false (.int) := ⟨_, rfl, by decide, gt_ps (ws := [.fieldLink "RattleAtFiftyModel" 92 "RattleAtFiftyModel" "rowAt" "I"]) [985] (by decide +kernel) (by decide +kernel) _ List.mem_cons_self, rfl, by decide +kernel, rfl⟩
theorem p_Mod_89 : PS "RattleAtFiftyModel" 89 11 7 false (.int) := ⟨_, rfl, by decide, gt_ps (ws := [.fieldLink "RattleAtFiftyModel" 89 "RattleAtFiftyModel" "rowEnd" "I"]) [986] (by decide +kernel) (by decide +kernel) _ List.mem_cons_self, rfl, by decide +kernel, rfl⟩
theorem p_Mod_188 : PS "RattleAtFiftyModel" 188 11 11 false (.int) := ⟨_, rfl, by decide, gt_ps (ws := [.fieldLink "RattleAtFiftyModel" 188 "RattleAtFiftyModel" "figuresMany" "I"]) [990] (by decide +kernel) (by decide +kernel) _ List.mem_cons_self, rfl, by decide +kernel, rfl⟩
theorem p_Mod_218 : PS "RattleAtFiftyModel" 218 11 12 false (.int) := ⟨_, rfl, by decide, gt_ps (ws := [.fieldLink "RattleAtFiftyModel" 218 "RattleAtFiftyModel" "seed" "I"]) [991] (by decide +kernel) (by decide +kernel) _ List.mem_cons_self, rfl, by decide +kernel, rfl⟩
theorem p_Mod_227 : PS "RattleAtFiftyModel" 227 11 4 false (.boolean) := ⟨_, rfl, by decide, gt_ps (ws := [.fieldLink "RattleAtFiftyModel" 227 "RattleAtFiftyModel" "hasImage" "Z"]) [983] (by decide +kernel) (by decide +kernel) _ List.mem_cons_self, rfl, by decide +kernel, rfl⟩
theorem p_Mod_231 : PS "RattleAtFiftyModel" 231 11 19 false (.int) := ⟨_, rfl, by decide, gt_ps (ws := [.fieldLink "RattleAtFiftyModel" 231 "RattleAtFiftyModel" "thrown" "I"]) [998] (by decide +kernel) (by decide +kernel) _ List.mem_cons_self, rfl, by decide +kernel, rfl⟩
theorem p_Car_9 : PS "RattleAtFifty$Car" 9 0 0 true (.array (.object "RattleAtFifty$Part")) := ⟨_, rfl, by decide, gt_ps (ws := [.fieldLink "RattleAtFifty$Car" 9 "RattleAtFifty$Car" "kinds" "[LRattleAtFifty$Part;"]) [134] (by decide +kernel) (by decide +kernel) _ List.mem_cons_self, rfl, by decide +kernel, rfl⟩
theorem p_Car_15 : PS "RattleAtFifty$Car" 15 0 1 true (.array .int) := ⟨_, rfl, by decide, gt_ps (ws := [.fieldLink "RattleAtFifty$Car" 15 "RattleAtFifty$Car" "kind" "[I"]) [135] (by decide +kernel) (by decide +kernel) _ List.mem_cons_self, rfl, by decide +kernel, rfl⟩
theorem p_Car_19 : PS "RattleAtFifty$Car" 19 0 2 true (.array .int) := ⟨_, rfl, by decide, gt_ps (ws := [.fieldLink "RattleAtFifty$Car" 19 "RattleAtFifty$Car" "figure" "[I"]) [137] (by decide +kernel) (by decide +kernel) _ List.mem_cons_self, rfl, by decide +kernel, rfl⟩
theorem p_Car_22 : PS "RattleAtFifty$Car" 22 0 3 true (.array .int) := ⟨_, rfl, by decide, gt_ps (ws := [.fieldLink "RattleAtFifty$Car" 22 "RattleAtFifty$Car" "seat" "[I"]) [139] (by decide +kernel) (by decide +kernel) _ List.mem_cons_self, rfl, by decide +kernel, rfl⟩
theorem p_Car_25 : PS "RattleAtFifty$Car" 25 0 4 true (.array .int) := ⟨_, rfl, by decide, gt_ps (ws := [.fieldLink "RattleAtFifty$Car" 25 "RattleAtFifty$Car" "weight" "[I"]) [141] (by decide +kernel) (by decide +kernel) _ List.mem_cons_self, rfl, by decide +kernel, rfl⟩
theorem p_Car_28 : PS "RattleAtFifty$Car" 28 0 5 true (.array .int) := ⟨_, rfl, by decide, gt_ps (ws := [.fieldLink "RattleAtFifty$Car" 28 "RattleAtFifty$Car" "state" "[I"]) [143] (by decide +kernel) (by decide +kernel) _ List.mem_cons_self, rfl, by decide +kernel, rfl⟩
theorem p_Car_31 : PS "RattleAtFifty$Car" 31 0 6 true (.array .int) := ⟨_, rfl, by decide, gt_ps (ws := [.fieldLink "RattleAtFifty$Car" 31 "RattleAtFifty$Car" "drivesWedged" "[I"]) [145] (by decide +kernel) (by decide +kernel) _ List.mem_cons_self, rfl, by decide +kernel, rfl⟩
theorem p_Car_34 : PS "RattleAtFifty$Car" 34 0 7 true (.array .int) := ⟨_, rfl, by decide, gt_ps (ws := [.fieldLink "RattleAtFifty$Car" 34 "RattleAtFifty$Car" "setting" "[I"]) [146] (by decide +kernel) (by decide +kernel) _ List.mem_cons_self, rfl, by decide +kernel, rfl⟩
theorem p_Car_37 : PS "RattleAtFifty$Car" 37 0 8 false (.int) := ⟨_, rfl, by decide, gt_ps (ws := [.fieldLink "RattleAtFifty$Car" 37 "RattleAtFifty$Car" "parts" "I"]) [148] (by decide +kernel) (by decide +kernel) _ List.mem_cons_self, rfl, by decide +kernel, rfl⟩
theorem p_Car_41 : PS "RattleAtFifty$Car" 41 0 9 false (.int) := ⟨_, rfl, by decide, gt_ps (ws := [.fieldLink "RattleAtFifty$Car" 41 "RattleAtFifty$Car" "miles" "I"]) [150] (by decide +kernel) (by decide +kernel) _ List.mem_cons_self, rfl, by decide +kernel, rfl⟩
theorem p_Shelf_11 : PS "RattleAtFifty$Shelf" 11 8 0 false (.int) := ⟨_, rfl, by decide, gt_ps (ws := [.fieldLink "RattleAtFifty$Shelf" 11 "RattleAtFifty$Shelf" "content" "I"]) [181] (by decide +kernel) (by decide +kernel) _ List.mem_cons_self, rfl, by decide +kernel, rfl⟩
theorem p_Shelf_15 : PS "RattleAtFifty$Shelf" 15 8 1 false (.int) := ⟨_, rfl, by decide, gt_ps (ws := [.fieldLink "RattleAtFifty$Shelf" 15 "RattleAtFifty$Shelf" "kind" "I"]) [182] (by decide +kernel) (by decide +kernel) _ List.mem_cons_self, rfl, by decide +kernel, rfl⟩
theorem p_Shelf_18 : PS "RattleAtFifty$Shelf" 18 8 2 false (.int) := ⟨_, rfl, by decide, gt_ps (ws := [.fieldLink "RattleAtFifty$Shelf" 18 "RattleAtFifty$Shelf" "figure" "I"]) [184] (by decide +kernel) (by decide +kernel) _ List.mem_cons_self, rfl, by decide +kernel, rfl⟩
theorem p_Shelf_21 : PS "RattleAtFifty$Shelf" 21 8 3 false (.int) := ⟨_, rfl, by decide, gt_ps (ws := [.fieldLink "RattleAtFifty$Shelf" 21 "RattleAtFifty$Shelf" "sort" "I"]) [186] (by decide +kernel) (by decide +kernel) _ List.mem_cons_self, rfl, by decide +kernel, rfl⟩
theorem p_Shelf_24 : PS "RattleAtFifty$Shelf" 24 8 4 false (.int) := ⟨_, rfl, by decide, gt_ps (ws := [.fieldLink "RattleAtFifty$Shelf" 24 "RattleAtFifty$Shelf" "size" "I"]) [188] (by decide +kernel) (by decide +kernel) _ List.mem_cons_self, rfl, by decide +kernel, rfl⟩
theorem p_Shelf_27 : PS "RattleAtFifty$Shelf" 27 8 5 true (.array .int) := ⟨_, rfl, by decide, gt_ps (ws := [.fieldLink "RattleAtFifty$Shelf" 27 "RattleAtFifty$Shelf" "elements" "[I"]) [192] (by decide +kernel) (by decide +kernel) _ List.mem_cons_self, rfl, by decide +kernel, rfl⟩
section JR3
variable {l : Launch} {M Mc : MI} {ad : Nat → Nat} {G : JG} {X : List (Nat × Nat × (Int → Int))} {al : Bool} {Z : JZ} {N N' cells slots pc pc' tgt : Nat} {L L' : List (Option AV)} {st rest : List AV} {w : AW}
theorem ix_in {i : Int} {n : Nat} (h : 0 ≤ i ∧ i < n) (hn : n ≤ 100000) : vp_in (Int32.ofInt i) n ∧ (Int32.ofInt i).toNatClampNeg = i.toNat := by
  have e : (Int32.ofInt i).toInt = i := Int32.toInt_ofInt_of_le (by omega) (by omega)
  refine ⟨vp_in_iff.mpr (by rw [e]; exact h), ?_⟩
  show (Int32.ofInt i).toInt.toNat = _
  rw [e]
theorem j_put {idx ci k q : Nat} {fs : List AV} {v : AV} {ty : FieldType} (hd : JD M pc (.putfield idx) 3) (hp : pc + 3 = pc') (hF : PS M.1.cls idx ci k false ty) (hq : q < N) (hw : w q = eO ci fs) (hl : k < fs.length) (hv : narrow ty (jv ad v) = jv ad v ∧ fits ty (jv ad v) = true) (kk : J l M ad G X al Z N cells slots pc' L st (up w q (eO ci (fs.set k v)))) : J l M ad G X al Z N cells slots pc L (v :: aR q :: st) w := by
  subst hp
  intro p e s m args below meth c A H locs ls C P D S sz hls
  obtain ⟨⟨Cn, T, NN⟩, h1, h2, h3, h4, h5, h6⟩ := hF
  obtain ⟨c1, ⟨ty0, c2⟩, c3⟩ := cls_of h1
  have hts := C.1.2.2.2.2
  have hown := C.1.2.2.2.1
  have hK := C.2.2.2.2.1.1
  have he := jw_get' (ca := G.2.2) (ad := ad) hq hw
  have hap := va_apart (own := M.1.cls) hts c1 ty0 c2 c3 hK h1
  obtain ⟨r, g1, cell, q1, q2, q3, q4⟩ := P q _ he
  have hr : r = (Cn, T, NN) := Option.some.inj (g1.symm.trans h1)
  subst hr
  obtain ⟨hS, hfc, kC, hkC, hkind⟩ := hK.1 ci _ h1
  obtain ⟨cf, kf, fi, f, hi, hsl⟩ := hS k h2
  have hlay := hts _ (c1 _ (u_in_lay h2))
  unfold u_lay at hlay
  rw [if_neg (by rw [h4]; decide)] at hlay
  have hst := (u_facts hfc hkC (u_lays hts c1 h2) hi).1
  have h6' := u_store hfc hkC hkind hlay hi h5 hv.1 hv.2
  refine W.putK (rest := st.map (jv ad)) C.1.1 C.1.2.1 (f := f) ⟨hown, hts _ h3, ⟨_, _, _, hi⟩, hst⟩ (by rw [q2]; exact h6') q1 q3 (by rw [hsl]; exact k2_hasslot (q4 k h2)) rfl rfl hd fun H' e1 e2 e3 => ?_
  rw [hsl] at e1
  have hlm : k < (fs.map (jv ad)).length := by rw [List.length_map]; exact hl
  have hP' := P.set (e := .inr (ci, (fs.map (jv ad)).set k (jv ad v))) D he ⟨_, h1, t_OB.to (V := updV (vp_V (fs.map (jv ad))) k (jv ad v)) ⟨_, e1, q2, q3, t_set q4 hap h2 (jv ad v)⟩ (fun j _ => vp_updV_set hlm (jv ad v) j)⟩ e3
  have hD' := D.set (e := .inr (ci, (fs.map (jv ad)).set k (jv ad v))) he
  rw [je_set] at hP' hD'
  exact kk p e s m args below meth c A H' _ ls C hP' hD' (S.put e2 e3 (D.2 q _ he)) (fun h => by rw [e2]; exact sz h) hls
theorem j_putI {idx ci k q : Nat} {fs : List AV} {z : Int} (hd : JD M pc (.putfield idx) 3) (hp : pc + 3 = pc') (hF : PS M.1.cls idx ci k false .int) (hq : q < N) (hw : w q = eO ci fs) (hl : k < fs.length) (kk : J l M ad G X al Z N cells slots pc' L st (up w q (eO ci (fs.set k (aI z))))) : J l M ad G X al Z N cells slots pc L (aI z :: aR q :: st) w :=
  j_put hd hp hF hq hw hl ⟨rfl, rfl⟩ kk
theorem j_putF {idx ci k q : Nat} {fs : List AV} {v : AV} {ty : FieldType} (hd : JD M pc (.putfield idx) 3) (hp : pc + 3 = pc') (hF : PS M.1.cls idx ci k true ty) (hin : M.1.name = "<init>") (hq : q < N) (hw : w q = eO ci fs) (hl : k < fs.length) (hv : narrow ty (jv ad v) = jv ad v ∧ fits ty (jv ad v) = true) (kk : J l M ad G X al Z N cells slots pc' L st (up w q (eO ci (fs.set k v)))) : J l M ad G X al Z N cells slots pc L (v :: aR q :: st) w := by
  subst hp
  intro p e s m args below meth c A H locs ls C P D S sz hls
  obtain ⟨⟨Cn, T, NN⟩, h1, h2, h3, h4, h5, h6⟩ := hF
  obtain ⟨c1, ⟨ty0, c2⟩, c3⟩ := cls_of h1
  have hts := C.1.2.2.2.2
  have hown := C.1.2.2.2.1
  have hK := C.2.2.2.2.1.1
  have he := jw_get' (ca := G.2.2) (ad := ad) hq hw
  have hap := va_apart (own := M.1.cls) hts c1 ty0 c2 c3 hK h1
  obtain ⟨r, g1, cell, q1, q2, q3, q4⟩ := P q _ he
  have hr : r = (Cn, T, NN) := Option.some.inj (g1.symm.trans h1)
  subst hr
  obtain ⟨hS, hfc, kC, hkC, hkind⟩ := hK.1 ci _ h1
  obtain ⟨cf, kf, fi, f, hi, hsl⟩ := hS k h2
  have hlay := hts _ (c1 _ (u_in_lay h2))
  unfold u_lay at hlay
  rw [if_pos h4] at hlay
  have hst := (u_facts hfc hkC (u_lays hts c1 h2) hi).1
  have hcf : m.cls = cf := by
    obtain ⟨_, _, c', _, _, _, -, -, hf', -, -, -, hown2, -⟩ := Cond.laysFinal_spec hlay
    have e1 : c' = cf := by have := hi.symm.trans hf'; simp at this; exact this.1.symm
    dsimp only at h6
    rw [h6] at hown2
    rw [← e1]; exact Option.some.inj (hown.symm.trans hown2)
  have h6' := u_fits hfc hkC hkind (Or.inr hlay) hi h5 hv.1 hv.2
  refine W.putFinK (rest := st.map (jv ad)) C.1.1 C.1.2.1 hown (hts _ h3) hi hst hcf (C.2.2.2.1.1.trans hin) (by rw [q2]; exact h6') q1 q3 (by rw [hsl]; exact k2_hasslot (q4 k h2)) rfl rfl hd fun H' e1 e2 e3 => ?_
  rw [hsl] at e1
  have hlm : k < (fs.map (jv ad)).length := by rw [List.length_map]; exact hl
  have hP' := P.set (e := .inr (ci, (fs.map (jv ad)).set k (jv ad v))) D he ⟨_, h1, t_OB.to (V := updV (vp_V (fs.map (jv ad))) k (jv ad v)) ⟨_, e1, q2, q3, t_set q4 hap h2 (jv ad v)⟩ (fun j _ => vp_updV_set hlm (jv ad v) j)⟩ e3
  have hD' := D.set (e := .inr (ci, (fs.map (jv ad)).set k (jv ad v))) he
  rw [je_set] at hP' hD'
  exact kk p e s m args below meth c A H' _ ls C hP' hD' (S.put e2 e3 (D.2 q _ he)) (fun h => by rw [e2]; exact sz h) hls
theorem j_iald {q n : Nat} {f : Int → Int} {i : Int} (hd : JD M pc .iaload 1) (hp : pc + 1 = pc') (hq : q < N) (hw : w q = eI n f) (hi : 0 ≤ i ∧ i < n) (hn : n ≤ 100000) (kk : J l M ad G X al Z N cells slots pc' L (aI (f i) :: st) w) : J l M ad G X al Z N cells slots pc L (aI i :: aR q :: st) w := by
  subst hp
  intro p e s m args below meth c A H locs ls C P D S sz hl
  obtain ⟨h1, h2⟩ := ix_in hi hn
  refine va_iald (D := (G.1, G.2.1)) (tys := jtys G.2.2) C.1.1 C.1.2.1 C.2.2.2.2.1.1 P q 0 (jw_get' hq hw) rfl h1 hd ?_
  rw [h2, Int.toNat_of_nonneg hi.1]
  exact kk p e s m args below meth c A H locs ls C P D S sz hl
theorem j_lald {q n : Nat} {f : Int → Int} {i : Int} (hd : JD M pc .laload 1) (hp : pc + 1 = pc') (hq : q < N) (hw : w q = eL n f) (hi : 0 ≤ i ∧ i < n) (hn : n ≤ 100000) (kk : J l M ad G X al Z N cells slots pc' L (aL (f i) :: st) w) : J l M ad G X al Z N cells slots pc L (aI i :: aR q :: st) w := by
  subst hp
  intro p e s m args below meth c A H locs ls C P D S sz hl
  obtain ⟨h1, h2⟩ := ix_in hi hn
  refine va_lald (D := (G.1, G.2.1)) (tys := jtys G.2.2) C.1.1 C.1.2.1 C.2.2.2.2.1.1 P q 1 (jw_get' hq hw) rfl h1 hd ?_
  rw [h2, Int.toNat_of_nonneg hi.1]
  exact kk p e s m args below meth c A H locs ls C P D S sz hl
theorem j_aald {q t n : Nat} {f : Int → Option Nat} {i : Int} {r : Nat} {Cn : String} (hd : JD M pc .aaload 1) (hp : pc + 1 = pc') (hq : q < N) (hw : w q = eR t n f) (ht : (jtys G.2.2)[t]? = some (G.2.2 t, .object Cn)) (hi : 0 ≤ i ∧ i < n) (hn : n ≤ 100000) (hr : f i = some r) (kk : J l M ad G X al Z N cells slots pc' L (aR r :: st) w) : J l M ad G X al Z N cells slots pc L (aI i :: aR q :: st) w := by
  subst hp
  intro p e s m args below meth c A H locs ls C P D S sz hl
  obtain ⟨h1, h2⟩ := ix_in hi hn
  refine va_aldq (D := (G.1, G.2.1)) (tys := jtys G.2.2) C.1.1 C.1.2.1 C.2.2.2.2.1.1 P q t (jw_get' hq hw) ht h1 hd ?_
  rw [h2, Int.toNat_of_nonneg hi.1, hr]
  exact kk p e s m args below meth c A H locs ls C P D S sz hl
theorem j_iast {q n : Nat} {f : Int → Int} {i z : Int} (hd : JD M pc .iastore 1) (hp : pc + 1 = pc') (hq : q < N) (hw : w q = eI n f) (hi : 0 ≤ i ∧ i < n) (hn : n ≤ 100000) (kk : J l M ad G X al Z N cells slots pc' L st (up w q (eI n (upi f i z)))) : J l M ad G X al Z N cells slots pc L (aI z :: aI i :: aR q :: st) w := by
  subst hp
  intro p e s m args below meth c A H locs ls C P D S sz hl
  obtain ⟨h1, h2⟩ := ix_in hi hn
  have he := jw_get' (ca := G.2.2) (ad := ad) hq hw
  refine W.iast (rest := st.map (jv ad)) C.1.1 C.1.2.1 (P q _ he) ((C.2.2.2.2.1.1.2 0 (G.2.2 0, .int) rfl).1 n (fun j => .int (Int32.ofInt (f j)))) (fun q => by cases q) (by show ¬ (_ ∨ (arrV _ _ _).slots.size ≤ _); rw [arrV_size]; exact h1) rfl rfl hd fun H1 e z9 oq => ?_
  have hP' : va_P (G.1, G.2.1) classes ((jw G.2.2 ad w N).set q (ad q, je G.2.2 ad (eI n (upi f i z)))) H1 := by
    refine P.set D he ?_ oq
    show H1[ad q]? = some (vp_cell _ _)
    rw [e]
    rw [vp_cell_i, vp_cell_i, arrV_store]
    congr 2
    funext j
    rw [h2]
    by_cases hj : j = i.toNat
    · subst hj
      simp [updV, upi, Int.toNat_of_nonneg hi.1]
    · have hne : (j : Int) ≠ i := by omega
      simp [updV, hj, upi, hne]
  have hD' := D.set (e := je G.2.2 ad (eI n (upi f i z))) he
  rw [jw_set] at hP' hD'
  exact kk p _ s m args below meth c A H1 _ ls C hP' hD' (S.put z9 oq (D.2 q _ he)) (fun h => by rw [z9]; exact sz h) hl
theorem j_alen {q n : Nat} {f : Int → Int} (hd : JD M pc .arraylength 1) (hp : pc + 1 = pc') (hq : q < N) (hw : w q = eI n f) (kk : J l M ad G X al Z N cells slots pc' L (aI n :: st) w) : J l M ad G X al Z N cells slots pc L (aR q :: st) w := by
  subst hp
  intro p e s m args below meth c A H locs ls C P D S sz hl
  exact va_alen (D := (G.1, G.2.1)) (tys := jtys G.2.2) (v := Int32.ofInt n) C.1.1 C.1.2.1 C.2.2.2.2.1.1 P q 0 (jw_get' hq hw) rfl rfl hd (kk p e s m args below meth c A H locs ls C P D S sz hl)
-- statics and foreign arrays
theorem j_gets {idx : Nat} (hd : JD M pc (.getstatic idx) 3) (hp : pc + 3 = pc') (hw : Cond.fieldLink M.1.cls idx "RattleAtFifty" "MOST_OF_SETTING" "[I" ∈ gT) (kk : J l M ad G X al Z N cells slots pc' L (aR 1000 :: st) w) : J l M ad G X al Z N cells slots pc L st w := by
  subst hp
  intro p e s m args below meth c A H locs ls C P D S sz hl
  exact va_gets C.1.1 C.1.2.1 C.2.2.2.2.2.2.1.1 S C.1.2.2.2.1 (C.1.2.2.2.2 _ hw) (fun _ h => h) hd (kk p e s m args below meth c A H locs ls C P D S sz hl)
theorem j_getsN {idx : Nat} {host : String} (hd : JD M pc (.getstatic idx) 3) (hp : pc + 3 = pc') (hw : Cond.fieldLinkNest M.1.cls idx "RattleAtFifty" "MOST_OF_SETTING" "[I" host ∈ nT) (kk : J l M ad G X al Z N cells slots pc' L (aR 1000 :: st) w) : J l M ad G X al Z N cells slots pc L st w := by
  subst hp
  intro p e s m args below meth c A H locs ls C P D S sz hl
  exact va_getsN C.1.1 C.1.2.1 C.2.2.2.2.2.2.1.1 S C.1.2.2.2.1 (va_Nw.use rfl (C.2.2.2.2.1.2.1 _ hw)) (fun _ h => h) hd (kk p e s m args below meth c A H locs ls C P D S sz hl)
theorem j_mos {i : Int} (hd : JD M pc .iaload 1) (hp : pc + 1 = pc') (hi : 0 ≤ i ∧ i < 4) (kk : J l M ad G X al Z N cells slots pc' L (aI (mos i) :: st) w) : J l M ad G X al Z N cells slots pc L (aI i :: aR 1000 :: st) w := by
  subst hp
  intro p e s m args below meth c A H locs ls C P D S sz hl
  obtain ⟨h1, h2⟩ := ix_in (n := 4) hi (by omega)
  exact va_ti (v := .int (Int32.ofInt (mos i))) C.1.1 C.1.2.1 C.2.2.2.2.2.2.1.2.1 S h1 (by rw [h2, Int.toNat_of_nonneg hi.1]) hd (kk p e s m args below meth c A H locs ls C P D S sz hl)
theorem j_xld {q n : Nat} {f : Int → Int} {i : Int} (hd : JD M pc .iaload 1) (hp : pc + 1 = pc') (hx : (q, n, f) ∈ X) (hi : 0 ≤ i ∧ i < n) (hn : n ≤ 100000) (kk : J l M ad G X al Z N cells slots pc' L (aI (f i) :: st) w) : J l M ad G X al Z N cells slots pc L (aI i :: aR q :: st) w := by
  subst hp
  intro p e s m args below meth c A H locs ls C P D S sz hl
  obtain ⟨h1, h2⟩ := ix_in hi hn
  exact va_ti (v := .int (Int32.ofInt (f i))) C.1.1 C.1.2.1 (C.2.2.2.2.2.2.2.1 _ hx) S h1 (by rw [h2]; show Value.int (Int32.ofInt (f ((i.toNat : Nat) : Int))) = _; rw [Int.toNat_of_nonneg hi.1]) hd (kk p e s m args below meth c A H locs ls C P D S sz hl)
theorem j_xlen {q n : Nat} {f : Int → Int} (hd : JD M pc .arraylength 1) (hp : pc + 1 = pc') (hx : (q, n, f) ∈ X) (kk : J l M ad G X al Z N cells slots pc' L (aI n :: st) w) : J l M ad G X al Z N cells slots pc L (aR q :: st) w := by
  subst hp
  intro p e s m args below meth c A H locs ls C P D S sz hl
  exact va_tlen (v := Int32.ofInt n) C.1.1 C.1.2.1 (C.2.2.2.2.2.2.2.1 _ hx) S rfl hd (kk p e s m args below meth c A H locs ls C P D S sz hl)
end JR3
