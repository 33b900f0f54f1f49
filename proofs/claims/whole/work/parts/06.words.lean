abbrev classes : List vw_C := [(RX0, TX0, 10), (RX1, TX1, 0), (RX2, TX2, 0), (RX3, TX3, 0), (RX4, TX4, 0), (RX5, TX5, 0), (RX6, TX6, 0), (RX7, TX7, 0), (RX9, TX9, 6), (RX10, TX10, 0), (RX11, TX11, 8), (RX12, TX12, 20)]
def gT : List Cond := lw_tbl.filter goodWord
def isNest : Cond → Bool
  | .fieldLinkNest .. => true
  | .methodLinkNest .. => true
  | _ => false
def nT : List Cond := tables_1.filter isNest
def fT : List Cond := tables_1.filter Cond.faceAtom
theorem gT_good {w : Cond} (h : w ∈ gT) : goodWord w = true := (List.mem_filter.mp h).2
theorem gT_in {w : Cond} (h : w ∈ gT) : w ∈ lw_tbl := (List.mem_filter.mp h).1
theorem gt_ps {ws : List Cond} (ps : List Nat) (h : ws = ps.filterMap (fun i => lw_tbl[i]?)) (g : ws.all goodWord = true) : ∀ w ∈ ws, w ∈ gT := by
  intro w hw
  have h1 := List.all_eq_true.mp g w hw
  rw [h] at hw
  obtain ⟨i, -, hi⟩ := List.mem_filterMap.mp hw
  exact List.mem_filter.mpr ⟨List.mem_of_getElem? hi, h1⟩
theorem nt_at {w : Cond} (i : Nat) (h : tables_1[i]? = some w) (g : isNest w = true) : w ∈ nT := List.mem_filter.mpr ⟨List.mem_of_getElem? h, g⟩
abbrev MI : Type := MethodName × ByteArray × Nat × Option FieldType × Room
def dOK (y : MethodName) (n : Nat) : Prop := y.cls ≠ "java/lang/invoke/MethodHandle" ∧ y.cls ≠ "java/lang/invoke/VarHandle" ∧ (parseMethodDescriptor y.desc).map (fun d => d.parameters.length) = some n
def SiteS (own : String) (idx : Nat) (M : MI) (n : Nat) : Prop := (∀ w ∈ ([.code M.1 M.2.1 M.2.2.1 M.2.2.2.1, .methodLink own idx M.1, .static M.1, .initialized M.1.cls] : List Cond), w ∈ gT) ∧ dOK M.1 n
def SiteSN (own : String) (idx : Nat) (M : MI) (n : Nat) : Prop := (∀ w ∈ ([.code M.1 M.2.1 M.2.2.1 M.2.2.2.1, .static M.1, .initialized M.1.cls] : List Cond), w ∈ gT) ∧ dOK M.1 n ∧ ∃ host, Cond.methodLinkNest own idx M.1 host ∈ nT
def SiteV (own : String) (idx : Nat) (M : MI) (n : Nat) : Prop := (∀ w ∈ ([.code M.1 M.2.1 M.2.2.1 M.2.2.2.1, .methodLink own idx M.1, .instanceMethod M.1, .selects M.1.cls M.1 M.1, .initialized M.1.cls] : List Cond), w ∈ gT) ∧ dOK M.1 n
def SiteO (own : String) (idx : Nat) (C : String) (x : MethodName) (M : MI) (n : Nat) : Prop := (∀ w ∈ ([.code M.1 M.2.1 M.2.2.1 M.2.2.2.1, .methodLink own idx x, .sameMethod x.cls x.cls x.name x.desc, .instanceMethod x, .selects C x M.1, .instanceMethod M.1, .initialized M.1.cls] : List Cond), w ∈ gT) ∧ dOK x n
def SiteU (own : String) (idx : Nat) (M : MI) (n : Nat) : Prop := (∀ w ∈ ([.code M.1 M.2.1 M.2.2.1 M.2.2.2.1, .methodLink own idx M.1, .sameMethod M.1.cls M.1.cls M.1.name M.1.desc, .superclass own M.1.cls, .instanceMethod M.1, .initialized M.1.cls] : List Cond), w ∈ gT) ∧ M.1.name ≠ "<init>" ∧ (parseMethodDescriptor M.1.desc).map (fun d => d.parameters.length) = some n
def SiteI (own : String) (idx : Nat) (M : MI) (n : Nat) : Prop := (∀ w ∈ ([.code M.1 M.2.1 M.2.2.1 M.2.2.2.1, .methodLink own idx M.1, .instanceMethod M.1, .initialized M.1.cls] : List Cond), w ∈ gT) ∧ dOK M.1 n ∧ M.1.name = "<init>" ∧ M.2.2.2.1 = none
def SiteIN (own : String) (idx : Nat) (M : MI) (n : Nat) : Prop := (∀ w ∈ ([.code M.1 M.2.1 M.2.2.1 M.2.2.2.1, .instanceMethod M.1, .initialized M.1.cls] : List Cond), w ∈ gT) ∧ dOK M.1 n ∧ M.1.name = "<init>" ∧ M.2.2.2.1 = none ∧ ∃ host, Cond.methodLinkNest own idx M.1 host ∈ nT
def FS (own : String) (idx ci k : Nat) : Prop := ∃ q, classes[ci]? = some q ∧ k < q.2.2 ∧ (Cond.fieldLink own idx (q.2.1 k).1 (q.2.1 k).2.1 (q.2.1 k).2.2.1 ∈ gT ∨ ∃ host, Cond.fieldLinkNest own idx (q.2.1 k).1 (q.2.1 k).2.1 (q.2.1 k).2.2.1 host ∈ nT)
theorem cin_0 : ∀ w ∈ u_ws RX0 TX0 10, w ∈ gT := gt_ps [152, 154, 156, 158, 160, 162, 164, 166, 168, 170] (by decide +kernel) (by decide +kernel)
theorem cit_0 : Cond.instantiable RX0 10 ∈ gT ∧ Cond.initialized RX0 ∈ gT := by
  have h := gt_ps (ws := [.instantiable RX0 10, .initialized RX0]) [129, 50] (by decide +kernel) (by decide +kernel)
  exact ⟨h _ List.mem_cons_self, h _ (List.mem_cons_of_mem _ List.mem_cons_self)⟩
theorem cin_1 : ∀ w ∈ u_ws RX1 TX1 0, w ∈ gT := gt_ps [] (by decide +kernel) (by decide +kernel)
theorem cit_1 : Cond.instantiable RX1 0 ∈ gT ∧ Cond.initialized RX1 ∈ gT := by
  have h := gt_ps (ws := [.instantiable RX1 0, .initialized RX1]) [115, 48] (by decide +kernel) (by decide +kernel)
  exact ⟨h _ List.mem_cons_self, h _ (List.mem_cons_of_mem _ List.mem_cons_self)⟩
theorem cin_2 : ∀ w ∈ u_ws RX2 TX2 0, w ∈ gT := gt_ps [] (by decide +kernel) (by decide +kernel)
theorem cit_2 : Cond.instantiable RX2 0 ∈ gT ∧ Cond.initialized RX2 ∈ gT := by
  have h := gt_ps (ws := [.instantiable RX2 0, .initialized RX2]) [122, 49] (by decide +kernel) (by decide +kernel)
  exact ⟨h _ List.mem_cons_self, h _ (List.mem_cons_of_mem _ List.mem_cons_self)⟩
theorem cin_3 : ∀ w ∈ u_ws RX3 TX3 0, w ∈ gT := gt_ps [] (by decide +kernel) (by decide +kernel)
theorem cit_3 : Cond.instantiable RX3 0 ∈ gT ∧ Cond.initialized RX3 ∈ gT := by
  have h := gt_ps (ws := [.instantiable RX3 0, .initialized RX3]) [108, 47] (by decide +kernel) (by decide +kernel)
  exact ⟨h _ List.mem_cons_self, h _ (List.mem_cons_of_mem _ List.mem_cons_self)⟩
theorem cin_4 : ∀ w ∈ u_ws RX4 TX4 0, w ∈ gT := gt_ps [] (by decide +kernel) (by decide +kernel)
theorem cit_4 : Cond.instantiable RX4 0 ∈ gT ∧ Cond.initialized RX4 ∈ gT := by
  have h := gt_ps (ws := [.instantiable RX4 0, .initialized RX4]) [94, 45] (by decide +kernel) (by decide +kernel)
  exact ⟨h _ List.mem_cons_self, h _ (List.mem_cons_of_mem _ List.mem_cons_self)⟩
theorem cin_5 : ∀ w ∈ u_ws RX5 TX5 0, w ∈ gT := gt_ps [] (by decide +kernel) (by decide +kernel)
theorem cit_5 : Cond.instantiable RX5 0 ∈ gT ∧ Cond.initialized RX5 ∈ gT := by
  have h := gt_ps (ws := [.instantiable RX5 0, .initialized RX5]) [101, 46] (by decide +kernel) (by decide +kernel)
  exact ⟨h _ List.mem_cons_self, h _ (List.mem_cons_of_mem _ List.mem_cons_self)⟩
theorem cin_6 : ∀ w ∈ u_ws RX6 TX6 0, w ∈ gT := gt_ps [] (by decide +kernel) (by decide +kernel)
theorem cit_6 : Cond.instantiable RX6 0 ∈ gT ∧ Cond.initialized RX6 ∈ gT := by
  have h := gt_ps (ws := [.instantiable RX6 0, .initialized RX6]) [80, 43] (by decide +kernel) (by decide +kernel)
  exact ⟨h _ List.mem_cons_self, h _ (List.mem_cons_of_mem _ List.mem_cons_self)⟩
theorem cin_7 : ∀ w ∈ u_ws RX7 TX7 0, w ∈ gT := gt_ps [] (by decide +kernel) (by decide +kernel)
theorem cit_7 : Cond.instantiable RX7 0 ∈ gT ∧ Cond.initialized RX7 ∈ gT := by
  have h := gt_ps (ws := [.instantiable RX7 0, .initialized RX7]) [73, 42] (by decide +kernel) (by decide +kernel)
  exact ⟨h _ List.mem_cons_self, h _ (List.mem_cons_of_mem _ List.mem_cons_self)⟩
theorem cin_8 : ∀ w ∈ u_ws RX9 TX9 6, w ∈ gT := gt_ps [196, 198, 200, 202, 204, 206] (by decide +kernel) (by decide +kernel)
theorem cit_8 : Cond.instantiable RX9 6 ∈ gT ∧ Cond.initialized RX9 ∈ gT := by
  have h := gt_ps (ws := [.instantiable RX9 6, .initialized RX9]) [176, 51] (by decide +kernel) (by decide +kernel)
  exact ⟨h _ List.mem_cons_self, h _ (List.mem_cons_of_mem _ List.mem_cons_self)⟩
theorem cin_9 : ∀ w ∈ u_ws RX10 TX10 0, w ∈ gT := gt_ps [] (by decide +kernel) (by decide +kernel)
theorem cit_9 : Cond.instantiable RX10 0 ∈ gT ∧ Cond.initialized RX10 ∈ gT := by
  have h := gt_ps (ws := [.instantiable RX10 0, .initialized RX10]) [87, 44] (by decide +kernel) (by decide +kernel)
  exact ⟨h _ List.mem_cons_self, h _ (List.mem_cons_of_mem _ List.mem_cons_self)⟩
theorem cin_10 : ∀ w ∈ u_ws RX11 TX11 8, w ∈ gT := gt_ps [217, 219, 221, 223, 225, 227, 229, 231] (by decide +kernel) (by decide +kernel)
theorem cit_10 : Cond.instantiable RX11 8 ∈ gT ∧ Cond.initialized RX11 ∈ gT := by
  have h := gt_ps (ws := [.instantiable RX11 8, .initialized RX11]) [64, 41] (by decide +kernel) (by decide +kernel)
  exact ⟨h _ List.mem_cons_self, h _ (List.mem_cons_of_mem _ List.mem_cons_self)⟩
theorem cin_11 : ∀ w ∈ u_ws RX12 TX12 20, w ∈ gT := gt_ps [999, 1001, 1003, 1005, 1007, 1009, 1011, 1013, 1015, 1017, 1019, 1021, 1023, 1025, 1027, 1029, 1031, 1033, 1035, 1037] (by decide +kernel) (by decide +kernel)
theorem cit_11 : Cond.instantiable RX12 20 ∈ gT ∧ Cond.initialized RX12 ∈ gT := by
  have h := gt_ps (ws := [.instantiable RX12 20, .initialized RX12]) [974, 52] (by decide +kernel) (by decide +kernel)
  exact ⟨h _ List.mem_cons_self, h _ (List.mem_cons_of_mem _ List.mem_cons_self)⟩
def m_Top_init : MI := (yX11_init, cX11_init, 2, none, { frames := 4, cells := 52, slots := 1103, locals := 80 })
def m_Top_road : MI := (yX11_road, cX11_road, 6, (some .int), { frames := 6, cells := 0, slots := 0, locals := 130 })
def m_Top_part : MI := (yX11_part, cX11_part, 3, (some .int), { frames := 4, cells := 0, slots := 0, locals := 94 })
def m_Top_adds : MI := (yX11_adds, cX11_adds, 5, (some .int), { frames := 3, cells := 0, slots := 0, locals := 66 })
def m_Top_holds : MI := (yX11_holds, cX11_holds, 2, (some .int), { frames := 4, cells := 0, slots := 0, locals := 84 })
def m_Top_wedges : MI := (yX11_wedges, cX11_wedges, 2, (some .int), { frames := 2, cells := 0, slots := 0, locals := 43 })
def m_Top_outs : MI := (yX11_outs, cX11_outs, 2, (some .int), { frames := 2, cells := 0, slots := 0, locals := 42 })
def m_Top_screws : MI := (yX11_screws, cX11_screws, 2, (some .int), { frames := 3, cells := 0, slots := 0, locals := 64 })
def m_Top_set : MI := (yX11_set, cX11_set, 3, (some .int), { frames := 2, cells := 0, slots := 0, locals := 45 })
def m_Top_drives : MI := (yX11_drives, cX11_drives, 4, (some .int), { frames := 6, cells := 0, slots := 0, locals := 143 })
def m_Top_heard : MI := (yX11_heard, cX11_heard, 3, (some .int), { frames := 6, cells := 0, slots := 0, locals := 144 })
def m_Top_loudest : MI := (yX11_loudest, cX11_loudest, 2, (some .int), { frames := 5, cells := 0, slots := 0, locals := 122 })
def m_Top_paces : MI := (yX11_paces, cX11_paces, 7, (some .int), { frames := 6, cells := 0, slots := 0, locals := 144 })
def m_Top_silentFrom : MI := (yX11_silentFrom, cX11_silentFrom, 4, (some .int), { frames := 6, cells := 0, slots := 0, locals := 144 })
def m_Top_holdAll : MI := (yX11_holdAll, cX11_holdAll, 3, (some .int), { frames := 6, cells := 0, slots := 0, locals := 145 })
def m_Top_radio : MI := (yX11_radio, cX11_radio, 3, (some .int), { frames := 5, cells := 0, slots := 0, locals := 122 })
def m_Top_wanted : MI := (yX11_wanted, cX11_wanted, 6, (some .int), { frames := 6, cells := 0, slots := 0, locals := 143 })
def m_Top_bestSeat : MI := (yX11_bestSeat, cX11_bestSeat, 3, (some .int), { frames := 6, cells := 0, slots := 0, locals := 143 })
def m_Top_which : MI := (yX11_which, cX11_which, 5, (some .int), { frames := 6, cells := 0, slots := 0, locals := 144 })
def m_Top_two : MI := (yX11_two, cX11_two, 10, (some .int), { frames := 6, cells := 0, slots := 0, locals := 144 })
def m_Top_tryNext : MI := (yX11_tryNext, cX11_tryNext, 10, (some .int), { frames := 6, cells := 0, slots := 0, locals := 144 })
def m_Top_halves : MI := (yX11_halves, cX11_halves, 3, (some .long), { frames := 4, cells := 0, slots := 0, locals := 89 })
def m_Top_oneByOne : MI := (yX11_oneByOne, cX11_oneByOne, 3, (some .long), { frames := 4, cells := 0, slots := 0, locals := 90 })
def m_Top_worse : MI := (yX11_worse, cX11_worse, 2, (some .int), { frames := 4, cells := 0, slots := 0, locals := 90 })
def m_Top_gone : MI := (yX11_gone, cX11_gone, 4, (some .int), { frames := 1, cells := 0, slots := 0, locals := 24 })
def m_Top_ear : MI := (yX11_ear, cX11_ear, 10, (some .long), { frames := 4, cells := 0, slots := 0, locals := 87 })
def m_Top_likeliest : MI := (yX11_likeliest, cX11_likeliest, 6, (some .int), { frames := 4, cells := 0, slots := 0, locals := 87 })
def m_Top_suspectsBy : MI := (yX11_suspectsBy, cX11_suspectsBy, 4, (some .int), { frames := 5, cells := 0, slots := 0, locals := 121 })
def m_Top_pairsRefusal : MI := (yX11_pairsRefusal, cX11_pairsRefusal, 3, (some .int), { frames := 3, cells := 0, slots := 0, locals := 63 })
def m_Top_toldSeatsRefusal : MI := (yX11_toldSeatsRefusal, cX11_toldSeatsRefusal, 5, (some .int), { frames := 3, cells := 0, slots := 0, locals := 63 })
def m_Top_likelihood : MI := (yX11_likelihood, cX11_likelihood, 6, (some .long), { frames := 0, cells := 0, slots := 0, locals := 0 })
def m_Top_drivesByHalves : MI := (yX11_drivesByHalves, cX11_drivesByHalves, 4, (some .int), { frames := 3, cells := 0, slots := 0, locals := 66 })
def m_Top_drivesOneByOne : MI := (yX11_drivesOneByOne, cX11_drivesOneByOne, 5, (some .int), { frames := 3, cells := 0, slots := 0, locals := 66 })
def m_Top_fillPool : MI := (yX11_fillPool, cX11_fillPool, 4, (some .int), { frames := 0, cells := 0, slots := 0, locals := 0 })
def m_Top_moveLeastToEnd : MI := (yX11_moveLeastToEnd, cX11_moveLeastToEnd, 3, none, { frames := 2, cells := 0, slots := 0, locals := 44 })
def m_Top_moveGreatestToEnd : MI := (yX11_moveGreatestToEnd, cX11_moveGreatestToEnd, 3, none, { frames := 2, cells := 0, slots := 0, locals := 44 })
def m_Top_swapInPool : MI := (yX11_swapInPool, cX11_swapInPool, 3, none, { frames := 1, cells := 0, slots := 0, locals := 22 })
def m_Top_startDigits : MI := (yX11_startDigits, cX11_startDigits, 4, none, { frames := 0, cells := 0, slots := 0, locals := 0 })
def m_Top_multiplyDigits : MI := (yX11_multiplyDigits, cX11_multiplyDigits, 5, none, { frames := 0, cells := 0, slots := 0, locals := 0 })
def m_Top_digitsAtMostPowerOfTen : MI := (yX11_digitsAtMostPowerOfTen, cX11_digitsAtMostPowerOfTen, 4, (some .boolean), { frames := 0, cells := 0, slots := 0, locals := 0 })
def m_Top_inLeastTerms : MI := (yX11_inLeastTerms, cX11_inLeastTerms, 7, (some .long), { frames := 1, cells := 0, slots := 0, locals := 30 })
def m_Top_greatestCommonDivisor : MI := (yX11_greatestCommonDivisor, cX11_greatestCommonDivisor, 11, (some .long), { frames := 0, cells := 0, slots := 0, locals := 0 })
def m_Top_mends : MI := (yX11_mends, cX11_mends, 3, (some .int), { frames := 5, cells := 0, slots := 0, locals := 122 })
def m_Top_mechanic : MI := (yX11_mechanic, cX11_mechanic, 10, (some .int), { frames := 2, cells := 0, slots := 0, locals := 42 })
def m_Top_worth : MI := (yX11_worth, cX11_worth, 3, (some .int), { frames := 6, cells := 0, slots := 0, locals := 143 })
def m_Top_quiet : MI := (yX11_quiet, cX11_quiet, 7, (some .int), { frames := 6, cells := 0, slots := 0, locals := 144 })
def m_Top_statesRefusal : MI := (yX11_statesRefusal, cX11_statesRefusal, 5, (some .int), { frames := 3, cells := 0, slots := 0, locals := 63 })
def m_Top_forged : MI := (yX11_forged, cX11_forged, 7, (some .int), { frames := 6, cells := 0, slots := 0, locals := 144 })
def m_Top_judge : MI := (yX11_judge, cX11_judge, 5, (some .int), { frames := 6, cells := 0, slots := 0, locals := 143 })
def m_Top_winters : MI := (yX11_winters, cX11_winters, 9, (some .int), { frames := 6, cells := 0, slots := 0, locals := 143 })
def m_Top_nextSeed : MI := (yX11_nextSeed, cX11_nextSeed, 1, (some .int), { frames := 0, cells := 0, slots := 0, locals := 0 })
def m_Top_drawn : MI := (yX11_drawn, cX11_drawn, 1, (some .int), { frames := 0, cells := 0, slots := 0, locals := 0 })
def m_Top_image : MI := (yX11_image, cX11_image, 1, (some .int), { frames := 2, cells := 0, slots := 0, locals := 61 })
def m_Top_restore : MI := (yX11_restore, cX11_restore, 1, (some .int), { frames := 2, cells := 0, slots := 0, locals := 61 })
def m_Top_count : MI := (yX11_count, cX11_count, 2, (some .int), { frames := 1, cells := 0, slots := 0, locals := 22 })
def m_Top_keep : MI := (yX11_keep, cX11_keep, 5, (some .int), { frames := 2, cells := 0, slots := 0, locals := 42 })
def m_Top_row : MI := (yX11_row, cX11_row, 4, (some .int), { frames := 2, cells := 0, slots := 0, locals := 42 })
def m_Top_put : MI := (yX11_put, cX11_put, 5, (some .int), { frames := 3, cells := 0, slots := 0, locals := 63 })
def m_Top_element : MI := (yX11_element, cX11_element, 3, (some .long), { frames := 7, cells := 1, slots := 6, locals := 110 })
def m_Top_copy : MI := (yX11_copy, cX11_copy, 8, (some .int), { frames := 2, cells := 0, slots := 0, locals := 42 })
def m_Top_cost : MI := (yX11_cost, cX11_cost, 3, (some .int), { frames := 3, cells := 0, slots := 0, locals := 63 })
def m_Top_toss : MI := (yX11_toss, cX11_toss, 6, (some .int), { frames := 8, cells := 1, slots := 6, locals := 131 })
def m_Top_rowRefusal : MI := (yX11_rowRefusal, cX11_rowRefusal, 2, (some .int), { frames := 2, cells := 0, slots := 0, locals := 42 })
def m_Top_kindRefusal : MI := (yX11_kindRefusal, cX11_kindRefusal, 2, (some .int), { frames := 2, cells := 0, slots := 0, locals := 42 })
def m_Top_within : MI := (yX11_within, cX11_within, 3, (some .boolean), { frames := 0, cells := 0, slots := 0, locals := 0 })
def m_Top_isEither : MI := (yX11_isEither, cX11_isEither, 1, (some .boolean), { frames := 1, cells := 0, slots := 0, locals := 22 })
def m_Top_isShelf : MI := (yX11_isShelf, cX11_isShelf, 1, (some .boolean), { frames := 1, cells := 0, slots := 0, locals := 22 })
def m_Top_isSeat : MI := (yX11_isSeat, cX11_isSeat, 1, (some .boolean), { frames := 1, cells := 0, slots := 0, locals := 22 })
def m_Top_isPace : MI := (yX11_isPace, cX11_isPace, 1, (some .boolean), { frames := 1, cells := 0, slots := 0, locals := 22 })
def m_Top_isSetOfParts : MI := (yX11_isSetOfParts, cX11_isSetOfParts, 2, (some .boolean), { frames := 0, cells := 0, slots := 0, locals := 0 })
def m_Top_ofLongs : MI := (yX11_ofLongs, cX11_ofLongs, 1, (some .long), { frames := 0, cells := 0, slots := 0, locals := 0 })
def m_Mod_init : MI := (yX12_init, cX12_init, 1, none, { frames := 1, cells := 13, slots := 1244, locals := 20 })
def m_Mod_isIn : MI := (yX12_isIn, cX12_isIn, 3, (some .boolean), { frames := 0, cells := 0, slots := 0, locals := 0 })
def m_Mod_size : MI := (yX12_size, cX12_size, 1, (some .int), { frames := 0, cells := 0, slots := 0, locals := 0 })
def m_Mod_most : MI := (yX12_most, cX12_most, 2, (some .int), { frames := 0, cells := 0, slots := 0, locals := 0 })
def m_Mod_lays : MI := (yX12_lays, cX12_lays, 3, none, { frames := 0, cells := 0, slots := 0, locals := 0 })
def m_Mod_at : MI := (yX12_at, cX12_at, 2, (some .int), { frames := 0, cells := 0, slots := 0, locals := 0 })
def m_Mod_isPart : MI := (yX12_isPart, cX12_isPart, 2, (some .boolean), { frames := 1, cells := 0, slots := 0, locals := 22 })
def m_Mod_isSeat : MI := (yX12_isSeat, cX12_isSeat, 1, (some .boolean), { frames := 1, cells := 0, slots := 0, locals := 22 })
def m_Mod_loudOf : MI := (yX12_loudOf, cX12_loudOf, 7, (some .int), { frames := 1, cells := 0, slots := 0, locals := 22 })
def m_Mod_secondsOf : MI := (yX12_secondsOf, cX12_secondsOf, 3, (some .int), { frames := 1, cells := 0, slots := 0, locals := 21 })
def m_Mod_loosensOf : MI := (yX12_loosensOf, cX12_loosensOf, 3, (some .int), { frames := 1, cells := 0, slots := 0, locals := 21 })
def m_Mod_partAt : MI := (yX12_partAt, cX12_partAt, 4, (some .int), { frames := 2, cells := 0, slots := 0, locals := 48 })
def m_Mod_soundAt : MI := (yX12_soundAt, cX12_soundAt, 5, (some .int), { frames := 3, cells := 0, slots := 0, locals := 71 })
def m_Mod_heardAt : MI := (yX12_heardAt, cX12_heardAt, 3, (some .int), { frames := 4, cells := 0, slots := 0, locals := 95 })
def m_Mod_heardNow : MI := (yX12_heardNow, cX12_heardNow, 1, (some .int), { frames := 5, cells := 0, slots := 0, locals := 117 })
def m_Mod_loudestAt : MI := (yX12_loudestAt, cX12_loudestAt, 5, (some .int), { frames := 3, cells := 0, slots := 0, locals := 71 })
def m_Mod_drive : MI := (yX12_drive, cX12_drive, 3, (some .int), { frames := 6, cells := 0, slots := 0, locals := 137 })
def m_Mod_screw : MI := (yX12_screw, cX12_screw, 4, (some .int), { frames := 2, cells := 0, slots := 0, locals := 43 })
def m_Mod_puts : MI := (yX12_puts, cX12_puts, 3, none, { frames := 1, cells := 0, slots := 0, locals := 21 })
def m_Mod_here : MI := (yX12_here, cX12_here, 1, (some .int), { frames := 0, cells := 0, slots := 0, locals := 0 })
def m_Mod_readsNumber : MI := (yX12_readsNumber, cX12_readsNumber, 4, (some .boolean), { frames := 1, cells := 0, slots := 0, locals := 22 })
def m_Mod_readsStatement : MI := (yX12_readsStatement, cX12_readsStatement, 3, (some .boolean), { frames := 2, cells := 0, slots := 0, locals := 45 })
def m_Mod_isThere : MI := (yX12_isThere, cX12_isThere, 2, (some .boolean), { frames := 2, cells := 0, slots := 0, locals := 43 })
def m_Mod_addsPart : MI := (yX12_addsPart, cX12_addsPart, 6, none, { frames := 2, cells := 0, slots := 0, locals := 43 })
def m_Mod_isDone : MI := (yX12_isDone, cX12_isDone, 4, (some .boolean), { frames := 7, cells := 0, slots := 0, locals := 159 })
def m_Mod_road : MI := (yX12_road, cX12_road, 8, (some .int), { frames := 8, cells := 0, slots := 0, locals := 182 })
def m_Mod_part : MI := (yX12_part, cX12_part, 3, (some .int), { frames := 2, cells := 0, slots := 0, locals := 48 })
def m_Mod_adds : MI := (yX12_adds, cX12_adds, 5, (some .int), { frames := 3, cells := 0, slots := 0, locals := 68 })
def m_Mod_holds : MI := (yX12_holds, cX12_holds, 2, (some .int), { frames := 3, cells := 0, slots := 0, locals := 64 })
def m_Mod_wedges : MI := (yX12_wedges, cX12_wedges, 3, (some .int), { frames := 3, cells := 0, slots := 0, locals := 64 })
def m_Mod_outs : MI := (yX12_outs, cX12_outs, 2, (some .int), { frames := 2, cells := 0, slots := 0, locals := 43 })
def m_Mod_screws : MI := (yX12_screws, cX12_screws, 2, (some .int), { frames := 3, cells := 0, slots := 0, locals := 66 })
def m_Mod_set : MI := (yX12_set, cX12_set, 4, (some .int), { frames := 1, cells := 0, slots := 0, locals := 22 })
def m_Mod_drives : MI := (yX12_drives, cX12_drives, 2, (some .int), { frames := 7, cells := 0, slots := 0, locals := 159 })
def m_Mod_heard : MI := (yX12_heard, cX12_heard, 3, (some .int), { frames := 5, cells := 0, slots := 0, locals := 117 })
def m_Mod_loudest : MI := (yX12_loudest, cX12_loudest, 2, (some .int), { frames := 4, cells := 0, slots := 0, locals := 95 })
def m_Mod_paces : MI := (yX12_paces, cX12_paces, 7, (some .int), { frames := 5, cells := 0, slots := 0, locals := 117 })
def m_Mod_silentFrom : MI := (yX12_silentFrom, cX12_silentFrom, 4, (some .int), { frames := 5, cells := 0, slots := 0, locals := 117 })
def m_Mod_bits : MI := (yX12_bits, cX12_bits, 3, (some .int), { frames := 0, cells := 0, slots := 0, locals := 0 })
def m_Mod_holdAll : MI := (yX12_holdAll, cX12_holdAll, 6, (some .int), { frames := 6, cells := 0, slots := 0, locals := 137 })
def m_Mod_radio : MI := (yX12_radio, cX12_radio, 3, (some .int), { frames := 4, cells := 0, slots := 0, locals := 95 })
def m_Mod_wanted : MI := (yX12_wanted, cX12_wanted, 5, (some .int), { frames := 6, cells := 0, slots := 0, locals := 137 })
def m_Mod_bestSeat : MI := (yX12_bestSeat, cX12_bestSeat, 3, (some .int), { frames := 5, cells := 0, slots := 0, locals := 117 })
def m_Mod_wrongPairs : MI := (yX12_wrongPairs, cX12_wrongPairs, 4, (some .int), { frames := 3, cells := 0, slots := 0, locals := 64 })
def m_Mod_isTold : MI := (yX12_isTold, cX12_isTold, 6, (some .boolean), { frames := 2, cells := 0, slots := 0, locals := 48 })
def m_Mod_whichOf : MI := (yX12_whichOf, cX12_whichOf, 4, (some .int), { frames := 3, cells := 0, slots := 0, locals := 73 })
def m_Mod_which : MI := (yX12_which, cX12_which, 4, (some .int), { frames := 4, cells := 0, slots := 0, locals := 96 })
def m_Mod_two : MI := (yX12_two, cX12_two, 10, (some .int), { frames := 4, cells := 0, slots := 0, locals := 96 })
def m_Mod_tryNext : MI := (yX12_tryNext, cX12_tryNext, 10, (some .int), { frames := 4, cells := 0, slots := 0, locals := 96 })
def m_Mod_weightOf : MI := (yX12_weightOf, cX12_weightOf, 4, (some .int), { frames := 1, cells := 0, slots := 0, locals := 21 })
def m_Mod_halvesOf : MI := (yX12_halvesOf, cX12_halvesOf, 5, (some .int), { frames := 2, cells := 0, slots := 0, locals := 44 })
def m_Mod_oneByOneOf : MI := (yX12_oneByOneOf, cX12_oneByOneOf, 7, (some .int), { frames := 1, cells := 0, slots := 0, locals := 21 })
def m_Mod_isSet : MI := (yX12_isSet, cX12_isSet, 2, (some .boolean), { frames := 0, cells := 0, slots := 0, locals := 0 })
def m_Mod_gcd : MI := (yX12_gcd, cX12_gcd, 10, (some .long), { frames := 0, cells := 0, slots := 0, locals := 0 })
def m_Mod_partOf : MI := (yX12_partOf, cX12_partOf, 5, (some .long), { frames := 1, cells := 0, slots := 0, locals := 29 })
def m_Mod_halves : MI := (yX12_halves, cX12_halves, 3, (some .long), { frames := 3, cells := 0, slots := 0, locals := 68 })
def m_Mod_oneByOne : MI := (yX12_oneByOne, cX12_oneByOne, 3, (some .long), { frames := 2, cells := 0, slots := 0, locals := 53 })
def m_Mod_worse : MI := (yX12_worse, cX12_worse, 2, (some .int), { frames := 3, cells := 0, slots := 0, locals := 68 })
def m_Mod_timesFigures : MI := (yX12_timesFigures, cX12_timesFigures, 5, none, { frames := 0, cells := 0, slots := 0, locals := 0 })
def m_Mod_isWithinTen : MI := (yX12_isWithinTen, cX12_isWithinTen, 3, (some .boolean), { frames := 0, cells := 0, slots := 0, locals := 0 })
def m_Mod_gone : MI := (yX12_gone, cX12_gone, 4, (some .int), { frames := 1, cells := 0, slots := 0, locals := 24 })
def m_Mod_wrongEar : MI := (yX12_wrongEar, cX12_wrongEar, 5, (some .int), { frames := 3, cells := 0, slots := 0, locals := 64 })
def m_Mod_earOf : MI := (yX12_earOf, cX12_earOf, 7, (some .long), { frames := 0, cells := 0, slots := 0, locals := 0 })
def m_Mod_ear : MI := (yX12_ear, cX12_ear, 9, (some .long), { frames := 4, cells := 0, slots := 0, locals := 88 })
def m_Mod_likeliest : MI := (yX12_likeliest, cX12_likeliest, 6, (some .int), { frames := 4, cells := 0, slots := 0, locals := 88 })
def m_Mod_mends : MI := (yX12_mends, cX12_mends, 5, (some .int), { frames := 4, cells := 0, slots := 0, locals := 95 })
def m_Mod_figuresOf : MI := (yX12_figuresOf, cX12_figuresOf, 3, (some .int), { frames := 1, cells := 0, slots := 0, locals := 21 })
def m_Mod_mechanic : MI := (yX12_mechanic, cX12_mechanic, 10, (some .int), { frames := 1, cells := 0, slots := 0, locals := 22 })
def m_Mod_worth : MI := (yX12_worth, cX12_worth, 3, (some .int), { frames := 6, cells := 0, slots := 0, locals := 137 })
def m_Mod_leastOf : MI := (yX12_leastOf, cX12_leastOf, 1, (some .int), { frames := 0, cells := 0, slots := 0, locals := 0 })
def m_Mod_quiet : MI := (yX12_quiet, cX12_quiet, 7, (some .int), { frames := 5, cells := 0, slots := 0, locals := 117 })
def m_Mod_wrongBy : MI := (yX12_wrongBy, cX12_wrongBy, 5, (some .int), { frames := 5, cells := 0, slots := 0, locals := 117 })
def m_Mod_forged : MI := (yX12_forged, cX12_forged, 5, (some .int), { frames := 6, cells := 0, slots := 0, locals := 141 })
def m_Mod_judge : MI := (yX12_judge, cX12_judge, 5, (some .int), { frames := 7, cells := 0, slots := 0, locals := 159 })
def m_Mod_drawn : MI := (yX12_drawn, cX12_drawn, 2, (some .int), { frames := 0, cells := 0, slots := 0, locals := 0 })
def m_Mod_winters : MI := (yX12_winters, cX12_winters, 8, (some .int), { frames := 7, cells := 0, slots := 0, locals := 159 })
def m_Mod_image : MI := (yX12_image, cX12_image, 1, (some .int), { frames := 1, cells := 0, slots := 0, locals := 22 })
def m_Mod_restore : MI := (yX12_restore, cX12_restore, 1, (some .int), { frames := 1, cells := 0, slots := 0, locals := 22 })
def m_Mod_count : MI := (yX12_count, cX12_count, 4, (some .int), { frames := 2, cells := 0, slots := 0, locals := 43 })
def m_Mod_thrown : MI := (yX12_thrown, cX12_thrown, 1, (some .int), { frames := 0, cells := 0, slots := 0, locals := 0 })
def m_Mod_isShelf : MI := (yX12_isShelf, cX12_isShelf, 1, (some .boolean), { frames := 1, cells := 0, slots := 0, locals := 22 })
def m_Mod_wrongRow : MI := (yX12_wrongRow, cX12_wrongRow, 3, (some .int), { frames := 2, cells := 0, slots := 0, locals := 42 })
def m_Mod_wrongKept : MI := (yX12_wrongKept, cX12_wrongKept, 2, (some .int), { frames := 2, cells := 0, slots := 0, locals := 42 })
def m_Mod_keep : MI := (yX12_keep, cX12_keep, 5, (some .int), { frames := 2, cells := 0, slots := 0, locals := 42 })
def m_Mod_row : MI := (yX12_row, cX12_row, 5, (some .int), { frames := 2, cells := 0, slots := 0, locals := 42 })
def m_Mod_put : MI := (yX12_put, cX12_put, 5, (some .int), { frames := 3, cells := 0, slots := 0, locals := 64 })
def m_Mod_element : MI := (yX12_element, cX12_element, 3, (some .long), { frames := 2, cells := 0, slots := 0, locals := 42 })
def m_Mod_copy : MI := (yX12_copy, cX12_copy, 8, (some .int), { frames := 2, cells := 0, slots := 0, locals := 42 })
def m_Mod_costBy : MI := (yX12_costBy, cX12_costBy, 2, (some .int), { frames := 0, cells := 0, slots := 0, locals := 0 })
def m_Mod_cost : MI := (yX12_cost, cX12_cost, 3, (some .int), { frames := 3, cells := 0, slots := 0, locals := 63 })
def m_Mod_toss : MI := (yX12_toss, cX12_toss, 5, (some .int), { frames := 3, cells := 0, slots := 0, locals := 63 })
def m_Car_init : MI := (yX0_init, cX0_init, 2, none, { frames := 1, cells := 7, slots := 46, locals := 20 })
def m_Car_becomes : MI := (yX0_becomes, cX0_becomes, 2, none, { frames := 1, cells := 0, slots := 0, locals := 40 })
def m_Car_has : MI := (yX0_has, cX0_has, 2, (some .boolean), { frames := 0, cells := 0, slots := 0, locals := 0 })
def m_Car_takeIn : MI := (yX0_takeIn, cX0_takeIn, 5, (some .int), { frames := 2, cells := 0, slots := 0, locals := 42 })
def m_Car_hold : MI := (yX0_hold, cX0_hold, 2, (some .int), { frames := 3, cells := 0, slots := 0, locals := 63 })
def m_Car_wedge : MI := (yX0_wedge, cX0_wedge, 3, (some .int), { frames := 1, cells := 0, slots := 0, locals := 21 })
def m_Car_takeOut : MI := (yX0_takeOut, cX0_takeOut, 2, (some .int), { frames := 1, cells := 0, slots := 0, locals := 21 })
def m_Car_screw : MI := (yX0_screw, cX0_screw, 3, (some .int), { frames := 2, cells := 0, slots := 0, locals := 42 })
def m_Car_change : MI := (yX0_change, cX0_change, 4, (some .int), { frames := 1, cells := 0, slots := 0, locals := 22 })
def m_Car_drive : MI := (yX0_drive, cX0_drive, 2, (some .int), { frames := 1, cells := 0, slots := 0, locals := 22 })
def m_Car_endDrive : MI := (yX0_endDrive, cX0_endDrive, 2, none, { frames := 0, cells := 0, slots := 0, locals := 0 })
def m_Car_takeStates : MI := (yX0_takeStates, cX0_takeStates, 3, none, { frames := 2, cells := 0, slots := 0, locals := 43 })
def m_Car_kindOf : MI := (yX0_kindOf, cX0_kindOf, 2, (some (.object "RattleAtFifty$Part")), { frames := 1, cells := 0, slots := 0, locals := 21 })
def m_Car_loudNow : MI := (yX0_loudNow, cX0_loudNow, 2, (some .int), { frames := 3, cells := 0, slots := 0, locals := 73 })
def m_Car_seconds : MI := (yX0_seconds, cX0_seconds, 2, (some .int), { frames := 3, cells := 0, slots := 0, locals := 63 })
def m_Car_loosening : MI := (yX0_loosening, cX0_loosening, 2, (some .int), { frames := 2, cells := 0, slots := 0, locals := 42 })
def m_Car_soundThere : MI := (yX0_soundThere, cX0_soundThere, 5, (some .int), { frames := 3, cells := 0, slots := 0, locals := 73 })
def m_Car_soundOfAllBut : MI := (yX0_soundOfAllBut, cX0_soundOfAllBut, 6, (some .int), { frames := 4, cells := 0, slots := 0, locals := 97 })
def m_Car_heardAt : MI := (yX0_heardAt, cX0_heardAt, 3, (some .int), { frames := 5, cells := 0, slots := 0, locals := 122 })
def m_Car_heardNow : MI := (yX0_heardNow, cX0_heardNow, 2, (some .int), { frames := 5, cells := 0, slots := 0, locals := 122 })
def m_Car_loudestAt : MI := (yX0_loudestAt, cX0_loudestAt, 6, (some .int), { frames := 4, cells := 0, slots := 0, locals := 97 })
def m_Car_fewestToHold : MI := (yX0_fewestToHold, cX0_fewestToHold, 4, (some .int), { frames := 5, cells := 0, slots := 0, locals := 122 })
def m_Car_secondsOf : MI := (yX0_secondsOf, cX0_secondsOf, 4, (some .int), { frames := 4, cells := 0, slots := 0, locals := 84 })
def m_Car_weightOf : MI := (yX0_weightOf, cX0_weightOf, 4, (some .int), { frames := 0, cells := 0, slots := 0, locals := 0 })
def m_Car_allFigures : MI := (yX0_allFigures, cX0_allFigures, 3, (some .int), { frames := 0, cells := 0, slots := 0, locals := 0 })
def m_Car_freeOnes : MI := (yX0_freeOnes, cX0_freeOnes, 3, (some .int), { frames := 0, cells := 0, slots := 0, locals := 0 })
def m_Car_rattlingAt : MI := (yX0_rattlingAt, cX0_rattlingAt, 5, (some .int), { frames := 3, cells := 0, slots := 0, locals := 73 })
def m_Car_doesJust : MI := (yX0_doesJust, cX0_doesJust, 5, (some .boolean), { frames := 4, cells := 0, slots := 0, locals := 97 })
def m_Dead_init : MI := (yX1_init, cX1_init, 1, none, { frames := 2, cells := 0, slots := 0, locals := 40 })
def m_Dead_loudness : MI := (yX1_loudness, cX1_loudness, 5, (some .int), { frames := 0, cells := 0, slots := 0, locals := 0 })
def m_Dead_loosensBy : MI := (yX1_loosensBy, cX1_loosensBy, 1, (some .int), { frames := 0, cells := 0, slots := 0, locals := 0 })
def m_Dead_price : MI := (yX1_price, cX1_price, 2, (some .int), { frames := 1, cells := 0, slots := 0, locals := 21 })
def m_Dead_fail : MI := (yX1_fail, cX1_fail, 2, none, { frames := 0, cells := 0, slots := 0, locals := 0 })
def m_Deep_init : MI := (yX2_init, cX2_init, 1, none, { frames := 3, cells := 0, slots := 0, locals := 60 })
def m_Deep_loudness : MI := (yX2_loudness, cX2_loudness, 5, (some .int), { frames := 2, cells := 0, slots := 0, locals := 48 })
def m_Deep_price : MI := (yX2_price, cX2_price, 2, (some .int), { frames := 2, cells := 0, slots := 0, locals := 42 })
def m_Doubled_init : MI := (yX3_init, cX3_init, 1, none, { frames := 3, cells := 0, slots := 0, locals := 60 })
def m_Doubled_loudness : MI := (yX3_loudness, cX3_loudness, 6, (some .int), { frames := 2, cells := 0, slots := 0, locals := 48 })
def m_Doubled_secondsToHold : MI := (yX3_secondsToHold, cX3_secondsToHold, 2, (some .int), { frames := 2, cells := 0, slots := 0, locals := 42 })
def m_Doubled_price : MI := (yX3_price, cX3_price, 2, (some .int), { frames := 2, cells := 0, slots := 0, locals := 42 })
def m_Doubled_fail : MI := (yX3_fail, cX3_fail, 2, none, { frames := 7, cells := 1, slots := 6, locals := 110 })
def m_Frosty_init : MI := (yX4_init, cX4_init, 1, none, { frames := 3, cells := 0, slots := 0, locals := 60 })
def m_Frosty_loudness : MI := (yX4_loudness, cX4_loudness, 5, (some .int), { frames := 1, cells := 0, slots := 0, locals := 24 })
def m_Frosty_secondsToHold : MI := (yX4_secondsToHold, cX4_secondsToHold, 2, (some .int), { frames := 2, cells := 0, slots := 0, locals := 42 })
def m_Frosty_price : MI := (yX4_price, cX4_price, 2, (some .int), { frames := 2, cells := 0, slots := 0, locals := 42 })
def m_Heavy_init : MI := (yX5_init, cX5_init, 1, none, { frames := 2, cells := 0, slots := 0, locals := 40 })
def m_Heavy_loudness : MI := (yX5_loudness, cX5_loudness, 5, (some .int), { frames := 1, cells := 0, slots := 0, locals := 24 })
def m_Heavy_secondsToHold : MI := (yX5_secondsToHold, cX5_secondsToHold, 2, (some .int), { frames := 1, cells := 0, slots := 0, locals := 21 })
def m_Heavy_price : MI := (yX5_price, cX5_price, 2, (some .int), { frames := 1, cells := 0, slots := 0, locals := 21 })
def m_Loose_init : MI := (yX6_init, cX6_init, 1, none, { frames := 2, cells := 0, slots := 0, locals := 40 })
def m_Loose_loudness : MI := (yX6_loudness, cX6_loudness, 5, (some .int), { frames := 0, cells := 0, slots := 0, locals := 0 })
def m_Loose_secondsToHold : MI := (yX6_secondsToHold, cX6_secondsToHold, 2, (some .int), { frames := 1, cells := 0, slots := 0, locals := 21 })
def m_Loose_loosensBy : MI := (yX6_loosensBy, cX6_loosensBy, 1, (some .int), { frames := 1, cells := 0, slots := 0, locals := 20 })
def m_Loose_price : MI := (yX6_price, cX6_price, 2, (some .int), { frames := 1, cells := 0, slots := 0, locals := 21 })
def m_Part_init : MI := (yX7_init, cX7_init, 1, none, { frames := 1, cells := 0, slots := 0, locals := 20 })
def m_Part_loudness : MI := (yX7_loudness, cX7_loudness, 5, (some .int), { frames := 0, cells := 0, slots := 0, locals := 0 })
def m_Part_secondsToHold : MI := (yX7_secondsToHold, cX7_secondsToHold, 2, (some .int), { frames := 0, cells := 0, slots := 0, locals := 0 })
def m_Part_loosensBy : MI := (yX7_loosensBy, cX7_loosensBy, 1, (some .int), { frames := 0, cells := 0, slots := 0, locals := 0 })
def m_Part_price : MI := (yX7_price, cX7_price, 2, (some .int), { frames := 0, cells := 0, slots := 0, locals := 0 })
def m_Part_fail : MI := (yX7_fail, cX7_fail, 2, none, { frames := 7, cells := 1, slots := 6, locals := 110 })
def m_Road_digitsBehind : MI := (yX8_digitsBehind, cX8_digitsBehind, 1, (some .int), { frames := 0, cells := 0, slots := 0, locals := 0 })
def m_Road_placeOfFormFault : MI := (yX8_placeOfFormFault, cX8_placeOfFormFault, 4, (some .int), { frames := 2, cells := 0, slots := 0, locals := 43 })
def m_Road_follow : MI := (yX8_follow, cX8_follow, 4, (some .int), { frames := 5, cells := 0, slots := 0, locals := 107 })
def m_Road_can : MI := (yX8_can, cX8_can, 4, (some .boolean), { frames := 4, cells := 0, slots := 0, locals := 84 })
def m_Shelf_init : MI := (yX9_init, cX9_init, 1, none, { frames := 1, cells := 1, slots := 100, locals := 20 })
def m_Shelf_clear : MI := (yX9_clear, cX9_clear, 1, none, { frames := 0, cells := 0, slots := 0, locals := 0 })
def m_Shelf_takeKind : MI := (yX9_takeKind, cX9_takeKind, 3, none, { frames := 0, cells := 0, slots := 0, locals := 0 })
def m_Shelf_takeRow : MI := (yX9_takeRow, cX9_takeRow, 4, none, { frames := 0, cells := 0, slots := 0, locals := 0 })
def m_Shelf_isEmpty : MI := (yX9_isEmpty, cX9_isEmpty, 1, (some .boolean), { frames := 0, cells := 0, slots := 0, locals := 0 })
def m_Shelf_refusalAsKind : MI := (yX9_refusalAsKind, cX9_refusalAsKind, 1, (some .int), { frames := 0, cells := 0, slots := 0, locals := 0 })
def m_Shelf_refusalAsRow : MI := (yX9_refusalAsRow, cX9_refusalAsRow, 1, (some .int), { frames := 0, cells := 0, slots := 0, locals := 0 })
def m_Shelf_hasPlace : MI := (yX9_hasPlace, cX9_hasPlace, 2, (some .boolean), { frames := 0, cells := 0, slots := 0, locals := 0 })
def m_Shelf_hasStretch : MI := (yX9_hasStretch, cX9_hasStretch, 3, (some .boolean), { frames := 0, cells := 0, slots := 0, locals := 0 })
def m_Shelf_store : MI := (yX9_store, cX9_store, 3, none, { frames := 1, cells := 0, slots := 0, locals := 21 })
def m_Shelf_skips : MI := (yX9_skips, cX9_skips, 3, (some .boolean), { frames := 1, cells := 0, slots := 0, locals := 21 })
def m_Shelf_isOfPairs : MI := (yX9_isOfPairs, cX9_isOfPairs, 2, (some .boolean), { frames := 2, cells := 0, slots := 0, locals := 42 })
def m_Shelf_hasDigit : MI := (yX9_hasDigit, cX9_hasDigit, 2, (some .boolean), { frames := 1, cells := 0, slots := 0, locals := 22 })
def m_Shelf_number : MI := (yX9_number, cX9_number, 5, (some .int), { frames := 2, cells := 0, slots := 0, locals := 43 })
def m_Tinny_init : MI := (yX10_init, cX10_init, 1, none, { frames := 2, cells := 0, slots := 0, locals := 40 })
def m_Tinny_loudness : MI := (yX10_loudness, cX10_loudness, 5, (some .int), { frames := 1, cells := 0, slots := 0, locals := 24 })
def m_Tinny_secondsToHold : MI := (yX10_secondsToHold, cX10_secondsToHold, 2, (some .int), { frames := 1, cells := 0, slots := 0, locals := 21 })
def m_Tinny_price : MI := (yX10_price, cX10_price, 2, (some .int), { frames := 1, cells := 0, slots := 0, locals := 21 })
def m_Tinny_fail : MI := (yX10_fail, cX10_fail, 2, none, { frames := 7, cells := 1, slots := 6, locals := 110 })
def m_Law_element : MI := (yL_element, cL_element, 5, (some .int), { frames := 8, cells := 1, slots := 6, locals := 132 })
def m_Integer_bitCount : MI := (yJ6_bitCount_0f7a4, cJ6_bitCount_0f7a4, 1, some .int, { frames := 0, cells := 0, slots := 0, locals := 0 })
theorem s_Top_9 : SiteIN "RattleAtFifty" 9 m_Part_init 0 := ⟨gt_ps [76, 75, 42] (by decide +kernel) (by decide +kernel), by unfold dOK; decide +kernel, by decide +kernel, rfl, "RattleAtFifty", nt_at 34 (by decide +kernel) (by decide +kernel)⟩
theorem s_Top_12 : SiteIN "RattleAtFifty" 12 m_Loose_init 0 := ⟨gt_ps [83, 82, 43] (by decide +kernel) (by decide +kernel), by unfold dOK; decide +kernel, by decide +kernel, rfl, "RattleAtFifty", nt_at 41 (by decide +kernel) (by decide +kernel)⟩
theorem s_Top_15 : SiteIN "RattleAtFifty" 15 m_Tinny_init 0 := ⟨gt_ps [90, 89, 44] (by decide +kernel) (by decide +kernel), by unfold dOK; decide +kernel, by decide +kernel, rfl, "RattleAtFifty", nt_at 48 (by decide +kernel) (by decide +kernel)⟩
theorem s_Top_18 : SiteIN "RattleAtFifty" 18 m_Frosty_init 0 := ⟨gt_ps [97, 96, 45] (by decide +kernel) (by decide +kernel), by unfold dOK; decide +kernel, by decide +kernel, rfl, "RattleAtFifty", nt_at 55 (by decide +kernel) (by decide +kernel)⟩
theorem s_Top_21 : SiteIN "RattleAtFifty" 21 m_Heavy_init 0 := ⟨gt_ps [104, 103, 46] (by decide +kernel) (by decide +kernel), by unfold dOK; decide +kernel, by decide +kernel, rfl, "RattleAtFifty", nt_at 62 (by decide +kernel) (by decide +kernel)⟩
theorem s_Top_24 : SiteIN "RattleAtFifty" 24 m_Doubled_init 0 := ⟨gt_ps [111, 110, 47] (by decide +kernel) (by decide +kernel), by unfold dOK; decide +kernel, by decide +kernel, rfl, "RattleAtFifty", nt_at 69 (by decide +kernel) (by decide +kernel)⟩
theorem s_Top_27 : SiteIN "RattleAtFifty" 27 m_Dead_init 0 := ⟨gt_ps [118, 117, 48] (by decide +kernel) (by decide +kernel), by unfold dOK; decide +kernel, by decide +kernel, rfl, "RattleAtFifty", nt_at 76 (by decide +kernel) (by decide +kernel)⟩
theorem s_Top_30 : SiteIN "RattleAtFifty" 30 m_Deep_init 0 := ⟨gt_ps [125, 124, 49] (by decide +kernel) (by decide +kernel), by unfold dOK; decide +kernel, by decide +kernel, rfl, "RattleAtFifty", nt_at 83 (by decide +kernel) (by decide +kernel)⟩
theorem f_Top_31 : FS "RattleAtFifty" 31 10 4 := ⟨_, rfl, by decide, Or.inl (gt_ps (ws := [.fieldLink "RattleAtFifty" 31 "RattleAtFifty" "kinds" "[LRattleAtFifty$Part;"]) [213] (by decide +kernel) (by decide +kernel) _ List.mem_cons_self)⟩
theorem s_Top_39 : SiteI "RattleAtFifty" 39 m_Car_init 1 := ⟨gt_ps [132, 130, 131, 50] (by decide +kernel) (by decide +kernel), by unfold dOK; decide +kernel, by decide +kernel, rfl⟩
theorem f_Top_42 : FS "RattleAtFifty" 42 10 0 := ⟨_, rfl, by decide, Or.inl (gt_ps (ws := [.fieldLink "RattleAtFifty" 42 "RattleAtFifty" "car" "LRattleAtFifty$Car;"]) [209] (by decide +kernel) (by decide +kernel) _ List.mem_cons_self)⟩
theorem f_Top_46 : FS "RattleAtFifty" 46 10 1 := ⟨_, rfl, by decide, Or.inl (gt_ps (ws := [.fieldLink "RattleAtFifty" 46 "RattleAtFifty" "trial" "LRattleAtFifty$Car;"]) [210] (by decide +kernel) (by decide +kernel) _ List.mem_cons_self)⟩
theorem f_Top_49 : FS "RattleAtFifty" 49 10 2 := ⟨_, rfl, by decide, Or.inl (gt_ps (ws := [.fieldLink "RattleAtFifty" 49 "RattleAtFifty" "imaged" "LRattleAtFifty$Car;"]) [211] (by decide +kernel) (by decide +kernel) _ List.mem_cons_self)⟩
theorem f_Top_52 : FS "RattleAtFifty" 52 10 3 := ⟨_, rfl, by decide, Or.inl (gt_ps (ws := [.fieldLink "RattleAtFifty" 52 "RattleAtFifty" "hasImage" "Z"]) [212] (by decide +kernel) (by decide +kernel) _ List.mem_cons_self)⟩
theorem f_Top_58 : FS "RattleAtFifty" 58 10 5 := ⟨_, rfl, by decide, Or.inl (gt_ps (ws := [.fieldLink "RattleAtFifty" 58 "RattleAtFifty" "shelves" "[LRattleAtFifty$Shelf;"]) [214] (by decide +kernel) (by decide +kernel) _ List.mem_cons_self)⟩
theorem s_Top_62 : SiteI "RattleAtFifty" 62 m_Shelf_init 0 := ⟨gt_ps [179, 177, 178, 51] (by decide +kernel) (by decide +kernel), by unfold dOK; decide +kernel, by decide +kernel, rfl⟩
theorem f_Top_63 : FS "RattleAtFifty" 63 10 6 := ⟨_, rfl, by decide, Or.inl (gt_ps (ws := [.fieldLink "RattleAtFifty" 63 "RattleAtFifty" "pool" "[I"]) [215] (by decide +kernel) (by decide +kernel) _ List.mem_cons_self)⟩
theorem f_Top_67 : FS "RattleAtFifty" 67 10 7 := ⟨_, rfl, by decide, Or.inl (gt_ps (ws := [.fieldLink "RattleAtFifty" 67 "RattleAtFifty" "digits" "[I"]) [216] (by decide +kernel) (by decide +kernel) _ List.mem_cons_self)⟩
theorem s_Top_70 : SiteV "RattleAtFifty" 70 m_Top_rowRefusal 1 := ⟨gt_ps [241, 238, 240, 0, 41] (by decide +kernel) (by decide +kernel), by unfold dOK; decide +kernel⟩
theorem f_Top_74 : FS "RattleAtFifty" 74 8 3 := ⟨_, rfl, by decide, Or.inr ⟨"RattleAtFifty", nt_at 147 (by decide +kernel) (by decide +kernel)⟩⟩
theorem s_Top_78 : SiteS "RattleAtFifty" 78 m_Road_placeOfFormFault 1 := ⟨gt_ps [254, 252, 253, 53] (by decide +kernel) (by decide +kernel), by unfold dOK; decide +kernel⟩
theorem s_Top_84 : SiteV "RattleAtFifty" 84 m_Car_becomes 1 := ⟨gt_ps [270, 267, 268, 269, 50] (by decide +kernel) (by decide +kernel), by unfold dOK; decide +kernel⟩
theorem s_Top_88 : SiteS "RattleAtFifty" 88 m_Road_follow 2 := ⟨gt_ps [276, 274, 275, 53] (by decide +kernel) (by decide +kernel), by unfold dOK; decide +kernel⟩
theorem s_Top_92 : SiteV "RattleAtFifty" 92 m_Car_has 1 := ⟨gt_ps [306, 382, 304, 305, 50] (by decide +kernel) (by decide +kernel), by unfold dOK; decide +kernel⟩
theorem f_Top_96 : FS "RattleAtFifty" 96 0 1 := ⟨_, rfl, by decide, Or.inr ⟨"RattleAtFifty", nt_at 96 (by decide +kernel) (by decide +kernel)⟩⟩
theorem f_Top_99 : FS "RattleAtFifty" 99 0 2 := ⟨_, rfl, by decide, Or.inr ⟨"RattleAtFifty", nt_at 98 (by decide +kernel) (by decide +kernel)⟩⟩
theorem f_Top_102 : FS "RattleAtFifty" 102 0 3 := ⟨_, rfl, by decide, Or.inr ⟨"RattleAtFifty", nt_at 100 (by decide +kernel) (by decide +kernel)⟩⟩
theorem f_Top_105 : FS "RattleAtFifty" 105 0 4 := ⟨_, rfl, by decide, Or.inr ⟨"RattleAtFifty", nt_at 102 (by decide +kernel) (by decide +kernel)⟩⟩
theorem f_Top_108 : FS "RattleAtFifty" 108 0 5 := ⟨_, rfl, by decide, Or.inr ⟨"RattleAtFifty", nt_at 104 (by decide +kernel) (by decide +kernel)⟩⟩
theorem s_Top_111 : SiteV "RattleAtFifty" 111 m_Car_loudNow 1 := ⟨gt_ps [386, 383, 384, 385, 50] (by decide +kernel) (by decide +kernel), by unfold dOK; decide +kernel⟩
theorem s_Top_114 : SiteV "RattleAtFifty" 114 m_Car_seconds 1 := ⟨gt_ps [424, 421, 422, 423, 50] (by decide +kernel) (by decide +kernel), by unfold dOK; decide +kernel⟩
theorem s_Top_117 : SiteV "RattleAtFifty" 117 m_Car_loosening 1 := ⟨gt_ps [428, 425, 426, 427, 50] (by decide +kernel) (by decide +kernel), by unfold dOK; decide +kernel⟩
theorem s_Top_120 : SiteS "RattleAtFifty" 120 m_Top_isShelf 1 := ⟨gt_ps [244, 242, 243, 41] (by decide +kernel) (by decide +kernel), by unfold dOK; decide +kernel⟩
theorem s_Top_123 : SiteS "RattleAtFifty" 123 m_Top_isSeat 1 := ⟨gt_ps [292, 433, 291, 41] (by decide +kernel) (by decide +kernel), by unfold dOK; decide +kernel⟩
theorem s_Top_126 : SiteS "RattleAtFifty" 126 m_Top_within 3 := ⟨gt_ps [247, 245, 246, 41] (by decide +kernel) (by decide +kernel), by unfold dOK; decide +kernel⟩
theorem s_Top_130 : SiteV "RattleAtFifty" 130 m_Shelf_refusalAsKind 0 := ⟨gt_ps [437, 434, 435, 436, 51] (by decide +kernel) (by decide +kernel), by unfold dOK; decide +kernel⟩
theorem f_Top_134 : FS "RattleAtFifty" 134 8 1 := ⟨_, rfl, by decide, Or.inr ⟨"RattleAtFifty", nt_at 143 (by decide +kernel) (by decide +kernel)⟩⟩
theorem f_Top_136 : FS "RattleAtFifty" 136 8 2 := ⟨_, rfl, by decide, Or.inr ⟨"RattleAtFifty", nt_at 145 (by decide +kernel) (by decide +kernel)⟩⟩
theorem s_Top_138 : SiteV "RattleAtFifty" 138 m_Car_takeIn 4 := ⟨gt_ps [288, 438, 286, 287, 50] (by decide +kernel) (by decide +kernel), by unfold dOK; decide +kernel⟩
theorem s_Top_142 : SiteV "RattleAtFifty" 142 m_Car_hold 1 := ⟨gt_ps [302, 443, 300, 301, 50] (by decide +kernel) (by decide +kernel), by unfold dOK; decide +kernel⟩
theorem s_Top_145 : SiteV "RattleAtFifty" 145 m_Car_wedge 1 := ⟨gt_ps [341, 448, 339, 340, 50] (by decide +kernel) (by decide +kernel), by unfold dOK; decide +kernel⟩
theorem s_Top_148 : SiteV "RattleAtFifty" 148 m_Car_takeOut 1 := ⟨gt_ps [345, 453, 343, 344, 50] (by decide +kernel) (by decide +kernel), by unfold dOK; decide +kernel⟩
theorem s_Top_151 : SiteV "RattleAtFifty" 151 m_Car_screw 1 := ⟨gt_ps [349, 458, 347, 348, 50] (by decide +kernel) (by decide +kernel), by unfold dOK; decide +kernel⟩
theorem s_Top_154 : SiteV "RattleAtFifty" 154 m_Car_change 2 := ⟨gt_ps [296, 463, 294, 295, 50] (by decide +kernel) (by decide +kernel), by unfold dOK; decide +kernel⟩
theorem s_Top_158 : SiteV "RattleAtFifty" 158 m_Car_heardNow 1 := ⟨gt_ps [471, 468, 469, 470, 50] (by decide +kernel) (by decide +kernel), by unfold dOK; decide +kernel⟩
theorem s_Top_161 : SiteV "RattleAtFifty" 161 m_Car_drive 1 := ⟨gt_ps [373, 484, 371, 372, 50] (by decide +kernel) (by decide +kernel), by unfold dOK; decide +kernel⟩
theorem s_Top_164 : SiteS "RattleAtFifty" 164 m_Top_isPace 1 := ⟨gt_ps [491, 489, 490, 41] (by decide +kernel) (by decide +kernel), by unfold dOK; decide +kernel⟩
theorem s_Top_167 : SiteV "RattleAtFifty" 167 m_Car_heardAt 2 := ⟨gt_ps [495, 492, 493, 494, 50] (by decide +kernel) (by decide +kernel), by unfold dOK; decide +kernel⟩
theorem s_Top_170 : SiteV "RattleAtFifty" 170 m_Car_loudestAt 1 := ⟨gt_ps [503, 500, 501, 502, 50] (by decide +kernel) (by decide +kernel), by unfold dOK; decide +kernel⟩
theorem s_Top_173 : SiteS "RattleAtFifty" 173 m_Top_isEither 1 := ⟨gt_ps [518, 516, 517, 41] (by decide +kernel) (by decide +kernel), by unfold dOK; decide +kernel⟩
theorem s_Top_176 : SiteV "RattleAtFifty" 176 m_Car_fewestToHold 0 := ⟨gt_ps [522, 519, 520, 521, 50] (by decide +kernel) (by decide +kernel), by unfold dOK; decide +kernel⟩
theorem s_Top_179 : SiteV "RattleAtFifty" 179 m_Car_secondsOf 1 := ⟨gt_ps [536, 533, 534, 535, 50] (by decide +kernel) (by decide +kernel), by unfold dOK; decide +kernel⟩
theorem f_Top_182 : FS "RattleAtFifty" 182 0 7 := ⟨_, rfl, by decide, Or.inr ⟨"RattleAtFifty", nt_at 107 (by decide +kernel) (by decide +kernel)⟩⟩
theorem s_Top_185 : SiteV "RattleAtFifty" 185 m_Car_soundOfAllBut 3 := ⟨gt_ps [475, 542, 473, 474, 50] (by decide +kernel) (by decide +kernel), by unfold dOK; decide +kernel⟩
theorem s_Top_192 : SiteV "RattleAtFifty" 192 m_Top_pairsRefusal 1 := ⟨gt_ps [559, 556, 558, 2, 41] (by decide +kernel) (by decide +kernel), by unfold dOK; decide +kernel⟩
theorem s_Top_195 : SiteV "RattleAtFifty" 195 m_Top_suspectsBy 1 := ⟨gt_ps [569, 566, 568, 3, 41] (by decide +kernel) (by decide +kernel), by unfold dOK; decide +kernel⟩
theorem s_Top_198 : SiteS "RattleAtFifty" 198 m_Integer_bitCount 1 := ⟨gt_ps [529, 578, 528, 56] (by decide +kernel) (by decide +kernel), by unfold dOK; decide +kernel⟩
theorem f_Top_203 : FS "RattleAtFifty" 203 0 8 := ⟨_, rfl, by decide, Or.inr ⟨"RattleAtFifty", nt_at 109 (by decide +kernel) (by decide +kernel)⟩⟩
theorem s_Top_206 : SiteV "RattleAtFifty" 206 m_Car_doesJust 2 := ⟨gt_ps [573, 570, 571, 572, 50] (by decide +kernel) (by decide +kernel), by unfold dOK; decide +kernel⟩
theorem s_Top_210 : SiteV "RattleAtFifty" 210 m_Car_weightOf 1 := ⟨gt_ps [590, 587, 588, 589, 50] (by decide +kernel) (by decide +kernel), by unfold dOK; decide +kernel⟩
theorem s_Top_213 : SiteV "RattleAtFifty" 213 m_Car_rattlingAt 1 := ⟨gt_ps [577, 591, 575, 576, 50] (by decide +kernel) (by decide +kernel), by unfold dOK; decide +kernel⟩
theorem s_Top_221 : SiteV "RattleAtFifty" 221 m_Top_isSetOfParts 1 := ⟨gt_ps [600, 597, 599, 4, 41] (by decide +kernel) (by decide +kernel), by unfold dOK; decide +kernel⟩
theorem s_Top_224 : SiteS "RattleAtFifty" 224 m_Top_ofLongs 1 := ⟨gt_ps [603, 601, 602, 41] (by decide +kernel) (by decide +kernel), by unfold dOK; decide +kernel⟩
theorem s_Top_228 : SiteV "RattleAtFifty" 228 m_Top_drivesByHalves 1 := ⟨gt_ps [608, 605, 607, 5, 41] (by decide +kernel) (by decide +kernel), by unfold dOK; decide +kernel⟩
theorem s_Top_231 : SiteS "RattleAtFifty" 231 m_Top_inLeastTerms 3 := ⟨gt_ps [623, 621, 622, 41] (by decide +kernel) (by decide +kernel), by unfold dOK; decide +kernel⟩
theorem s_Top_235 : SiteV "RattleAtFifty" 235 m_Top_drivesOneByOne 1 := ⟨gt_ps [634, 631, 633, 9, 41] (by decide +kernel) (by decide +kernel), by unfold dOK; decide +kernel⟩
theorem s_Top_238 : SiteV "RattleAtFifty" 238 m_Top_startDigits 1 := ⟨gt_ps [650, 647, 649, 11, 41] (by decide +kernel) (by decide +kernel), by unfold dOK; decide +kernel⟩
theorem s_Top_242 : SiteV "RattleAtFifty" 242 m_Top_digitsAtMostPowerOfTen 1 := ⟨gt_ps [654, 651, 653, 12, 41] (by decide +kernel) (by decide +kernel), by unfold dOK; decide +kernel⟩
theorem s_Top_245 : SiteV "RattleAtFifty" 245 m_Top_multiplyDigits 1 := ⟨gt_ps [658, 655, 657, 13, 41] (by decide +kernel) (by decide +kernel), by unfold dOK; decide +kernel⟩
theorem s_Top_248 : SiteV "RattleAtFifty" 248 m_Top_toldSeatsRefusal 1 := ⟨gt_ps [666, 663, 665, 14, 41] (by decide +kernel) (by decide +kernel), by unfold dOK; decide +kernel⟩
theorem s_Top_251 : SiteS "RattleAtFifty" 251 m_Top_likelihood 3 := ⟨gt_ps [669, 667, 668, 41] (by decide +kernel) (by decide +kernel), by unfold dOK; decide +kernel⟩
theorem s_Top_255 : SiteV "RattleAtFifty" 255 m_Shelf_isOfPairs 0 := ⟨gt_ps [563, 560, 561, 562, 51] (by decide +kernel) (by decide +kernel), by unfold dOK; decide +kernel⟩
theorem f_Top_259 : FS "RattleAtFifty" 259 8 4 := ⟨_, rfl, by decide, Or.inr ⟨"RattleAtFifty", nt_at 151 (by decide +kernel) (by decide +kernel)⟩⟩
theorem f_Top_262 : FS "RattleAtFifty" 262 8 5 := ⟨_, rfl, by decide, Or.inr ⟨"RattleAtFifty", nt_at 155 (by decide +kernel) (by decide +kernel)⟩⟩
theorem s_Top_265 : SiteV "RattleAtFifty" 265 m_Top_fillPool 1 := ⟨gt_ps [612, 609, 611, 6, 41] (by decide +kernel) (by decide +kernel), by unfold dOK; decide +kernel⟩
theorem s_Top_268 : SiteV "RattleAtFifty" 268 m_Top_moveLeastToEnd 1 := ⟨gt_ps [616, 613, 615, 7, 41] (by decide +kernel) (by decide +kernel), by unfold dOK; decide +kernel⟩
theorem s_Top_271 : SiteV "RattleAtFifty" 271 m_Top_moveGreatestToEnd 1 := ⟨gt_ps [638, 635, 637, 10, 41] (by decide +kernel) (by decide +kernel), by unfold dOK; decide +kernel⟩
theorem s_Top_274 : SiteV "RattleAtFifty" 274 m_Top_swapInPool 1 := ⟨gt_ps [620, 617, 619, 8, 41] (by decide +kernel) (by decide +kernel), by unfold dOK; decide +kernel⟩
theorem s_Top_277 : SiteS "RattleAtFifty" 277 m_Top_greatestCommonDivisor 2 := ⟨gt_ps [626, 624, 625, 41] (by decide +kernel) (by decide +kernel), by unfold dOK; decide +kernel⟩
theorem s_Top_281 : SiteV "RattleAtFifty" 281 m_Car_allFigures 0 := ⟨gt_ps [681, 678, 679, 680, 50] (by decide +kernel) (by decide +kernel), by unfold dOK; decide +kernel⟩
theorem s_Top_286 : SiteV "RattleAtFifty" 286 m_Top_statesRefusal 1 := ⟨gt_ps [698, 695, 697, 15, 41] (by decide +kernel) (by decide +kernel), by unfold dOK; decide +kernel⟩
theorem s_Top_289 : SiteV "RattleAtFifty" 289 m_Car_takeStates 1 := ⟨gt_ps [707, 704, 705, 706, 50] (by decide +kernel) (by decide +kernel), by unfold dOK; decide +kernel⟩
theorem s_Top_293 : SiteV "RattleAtFifty" 293 m_Shelf_skips 1 := ⟨gt_ps [702, 699, 700, 701, 51] (by decide +kernel) (by decide +kernel), by unfold dOK; decide +kernel⟩
theorem s_Top_296 : SiteV "RattleAtFifty" 296 m_Car_endDrive 0 := ⟨gt_ps [377, 717, 375, 376, 50] (by decide +kernel) (by decide +kernel), by unfold dOK; decide +kernel⟩
theorem s_Top_299 : SiteS "RattleAtFifty" 299 m_Top_nextSeed 1 := ⟨gt_ps [724, 722, 723, 41] (by decide +kernel) (by decide +kernel), by unfold dOK; decide +kernel⟩
theorem s_Top_302 : SiteS "RattleAtFifty" 302 m_Top_drawn 1 := ⟨gt_ps [728, 726, 727, 41] (by decide +kernel) (by decide +kernel), by unfold dOK; decide +kernel⟩
theorem f_Top_307 : FS "RattleAtFifty" 307 0 9 := ⟨_, rfl, by decide, Or.inr ⟨"RattleAtFifty", nt_at 111 (by decide +kernel) (by decide +kernel)⟩⟩
theorem s_Top_310 : SiteV "RattleAtFifty" 310 m_Car_freeOnes 0 := ⟨gt_ps [526, 742, 524, 525, 50] (by decide +kernel) (by decide +kernel), by unfold dOK; decide +kernel⟩
theorem s_Top_313 : SiteV "RattleAtFifty" 313 m_Shelf_clear 0 := ⟨gt_ps [750, 747, 748, 749, 51] (by decide +kernel) (by decide +kernel), by unfold dOK; decide +kernel⟩
theorem s_Top_316 : SiteV "RattleAtFifty" 316 m_Shelf_takeKind 2 := ⟨gt_ps [754, 751, 752, 753, 51] (by decide +kernel) (by decide +kernel), by unfold dOK; decide +kernel⟩
theorem s_Top_320 : SiteV "RattleAtFifty" 320 m_Shelf_takeRow 2 := ⟨gt_ps [762, 759, 760, 761, 51] (by decide +kernel) (by decide +kernel), by unfold dOK; decide +kernel⟩
theorem s_Top_323 : SiteV "RattleAtFifty" 323 m_Shelf_hasPlace 1 := ⟨gt_ps [265, 767, 263, 264, 51] (by decide +kernel) (by decide +kernel), by unfold dOK; decide +kernel⟩
theorem s_Top_326 : SiteV "RattleAtFifty" 326 m_Shelf_store 2 := ⟨gt_ps [771, 768, 769, 770, 51] (by decide +kernel) (by decide +kernel), by unfold dOK; decide +kernel⟩
theorem s_Top_336 : SiteV "RattleAtFifty" 336 m_Shelf_refusalAsRow 0 := ⟨gt_ps [251, 248, 249, 250, 51] (by decide +kernel) (by decide +kernel), by unfold dOK; decide +kernel⟩
theorem s_Top_344 : SiteV "RattleAtFifty" 344 m_Shelf_isEmpty 0 := ⟨gt_ps [779, 776, 777, 778, 51] (by decide +kernel) (by decide +kernel), by unfold dOK; decide +kernel⟩
theorem s_Top_347 : SiteV "RattleAtFifty" 347 m_Shelf_hasStretch 2 := ⟨gt_ps [783, 780, 781, 782, 51] (by decide +kernel) (by decide +kernel), by unfold dOK; decide +kernel⟩
theorem s_Top_357 : SiteV "RattleAtFifty" 357 m_Top_kindRefusal 1 := ⟨gt_ps [792, 789, 791, 16, 41] (by decide +kernel) (by decide +kernel), by unfold dOK; decide +kernel⟩
theorem s_Top_360_Part : SiteO "RattleAtFifty" 360 "RattleAtFifty$Part" ⟨"RattleAtFifty$Part", "price", "(I)I"⟩ m_Part_price 1 := ⟨gt_ps [825, 793, 796, 794, 795, 794, 42] (by decide +kernel) (by decide +kernel), by unfold dOK; decide +kernel⟩
theorem s_Top_360_Loose : SiteO "RattleAtFifty" 360 "RattleAtFifty$Loose" ⟨"RattleAtFifty$Part", "price", "(I)I"⟩ m_Loose_price 1 := ⟨gt_ps [820, 793, 796, 794, 823, 819, 43] (by decide +kernel) (by decide +kernel), by unfold dOK; decide +kernel⟩
theorem s_Top_360_Tinny : SiteO "RattleAtFifty" 360 "RattleAtFifty$Tinny" ⟨"RattleAtFifty$Part", "price", "(I)I"⟩ m_Tinny_price 1 := ⟨gt_ps [813, 793, 796, 794, 824, 812, 44] (by decide +kernel) (by decide +kernel), by unfold dOK; decide +kernel⟩
theorem s_Top_360_Frosty : SiteO "RattleAtFifty" 360 "RattleAtFifty$Frosty" ⟨"RattleAtFifty$Part", "price", "(I)I"⟩ m_Frosty_price 1 := ⟨gt_ps [817, 793, 796, 794, 815, 816, 45] (by decide +kernel) (by decide +kernel), by unfold dOK; decide +kernel⟩
theorem s_Top_360_Heavy : SiteO "RattleAtFifty" 360 "RattleAtFifty$Heavy" ⟨"RattleAtFifty$Part", "price", "(I)I"⟩ m_Heavy_price 1 := ⟨gt_ps [806, 793, 796, 794, 822, 805, 46] (by decide +kernel) (by decide +kernel), by unfold dOK; decide +kernel⟩
theorem s_Top_360_Doubled : SiteO "RattleAtFifty" 360 "RattleAtFifty$Doubled" ⟨"RattleAtFifty$Part", "price", "(I)I"⟩ m_Doubled_price 1 := ⟨gt_ps [810, 793, 796, 794, 808, 809, 47] (by decide +kernel) (by decide +kernel), by unfold dOK; decide +kernel⟩
theorem s_Top_360_Dead : SiteO "RattleAtFifty" 360 "RattleAtFifty$Dead" ⟨"RattleAtFifty$Part", "price", "(I)I"⟩ m_Dead_price 1 := ⟨gt_ps [799, 793, 796, 794, 797, 798, 48] (by decide +kernel) (by decide +kernel), by unfold dOK; decide +kernel⟩
theorem s_Top_360_Deep : SiteO "RattleAtFifty" 360 "RattleAtFifty$Deep" ⟨"RattleAtFifty$Part", "price", "(I)I"⟩ m_Deep_price 1 := ⟨gt_ps [803, 793, 796, 794, 801, 802, 49] (by decide +kernel) (by decide +kernel), by unfold dOK; decide +kernel⟩
theorem s_Top_363_Part : SiteO "RattleAtFifty" 363 "RattleAtFifty$Part" ⟨"RattleAtFifty$Part", "fail", "(I)V"⟩ m_Part_fail 1 := ⟨gt_ps [929, 833, 836, 834, 835, 834, 42] (by decide +kernel) (by decide +kernel), by unfold dOK; decide +kernel⟩
theorem s_Top_363_Loose : SiteO "RattleAtFifty" 363 "RattleAtFifty$Loose" ⟨"RattleAtFifty$Part", "fail", "(I)V"⟩ m_Part_fail 1 := ⟨gt_ps [929, 833, 836, 834, 910, 834, 42] (by decide +kernel) (by decide +kernel), by unfold dOK; decide +kernel⟩
theorem s_Top_363_Tinny : SiteO "RattleAtFifty" 363 "RattleAtFifty$Tinny" ⟨"RattleAtFifty$Part", "fail", "(I)V"⟩ m_Tinny_fail 1 := ⟨gt_ps [913, 833, 836, 834, 911, 912, 44] (by decide +kernel) (by decide +kernel), by unfold dOK; decide +kernel⟩
theorem s_Top_363_Frosty : SiteO "RattleAtFifty" 363 "RattleAtFifty$Frosty" ⟨"RattleAtFifty$Part", "fail", "(I)V"⟩ m_Part_fail 1 := ⟨gt_ps [929, 833, 836, 834, 908, 834, 42] (by decide +kernel) (by decide +kernel), by unfold dOK; decide +kernel⟩
theorem s_Top_363_Heavy : SiteO "RattleAtFifty" 363 "RattleAtFifty$Heavy" ⟨"RattleAtFifty$Part", "fail", "(I)V"⟩ m_Part_fail 1 := ⟨gt_ps [929, 833, 836, 834, 909, 834, 42] (by decide +kernel) (by decide +kernel), by unfold dOK; decide +kernel⟩
theorem s_Top_363_Doubled : SiteO "RattleAtFifty" 363 "RattleAtFifty$Doubled" ⟨"RattleAtFifty$Part", "fail", "(I)V"⟩ m_Doubled_fail 1 := ⟨gt_ps [843, 833, 836, 834, 841, 842, 47] (by decide +kernel) (by decide +kernel), by unfold dOK; decide +kernel⟩
theorem s_Top_363_Dead : SiteO "RattleAtFifty" 363 "RattleAtFifty$Dead" ⟨"RattleAtFifty$Part", "fail", "(I)V"⟩ m_Dead_fail 1 := ⟨gt_ps [839, 833, 836, 834, 837, 838, 48] (by decide +kernel) (by decide +kernel), by unfold dOK; decide +kernel⟩
theorem s_Top_363_Deep : SiteO "RattleAtFifty" 363 "RattleAtFifty$Deep" ⟨"RattleAtFifty$Part", "fail", "(I)V"⟩ m_Part_fail 1 := ⟨gt_ps [929, 833, 836, 834, 840, 834, 42] (by decide +kernel) (by decide +kernel), by unfold dOK; decide +kernel⟩
theorem f_Mod_9 : FS "RattleAtFiftyModel" 9 11 0 := ⟨_, rfl, by decide, Or.inl (gt_ps (ws := [.fieldLink "RattleAtFiftyModel" 9 "RattleAtFiftyModel" "s" "[I"]) [979] (by decide +kernel) (by decide +kernel) _ List.mem_cons_self)⟩
theorem f_Mod_13 : FS "RattleAtFiftyModel" 13 11 1 := ⟨_, rfl, by decide, Or.inl (gt_ps (ws := [.fieldLink "RattleAtFiftyModel" 13 "RattleAtFiftyModel" "m" "[I"]) [980] (by decide +kernel) (by decide +kernel) _ List.mem_cons_self)⟩
theorem f_Mod_16 : FS "RattleAtFiftyModel" 16 11 2 := ⟨_, rfl, by decide, Or.inl (gt_ps (ws := [.fieldLink "RattleAtFiftyModel" 16 "RattleAtFiftyModel" "image" "[I"]) [981] (by decide +kernel) (by decide +kernel) _ List.mem_cons_self)⟩
theorem f_Mod_19 : FS "RattleAtFiftyModel" 19 11 3 := ⟨_, rfl, by decide, Or.inl (gt_ps (ws := [.fieldLink "RattleAtFiftyModel" 19 "RattleAtFiftyModel" "was" "[I"]) [982] (by decide +kernel) (by decide +kernel) _ List.mem_cons_self)⟩
theorem f_Mod_22 : FS "RattleAtFiftyModel" 22 11 8 := ⟨_, rfl, by decide, Or.inl (gt_ps (ws := [.fieldLink "RattleAtFiftyModel" 22 "RattleAtFiftyModel" "numbers" "[I"]) [987] (by decide +kernel) (by decide +kernel) _ List.mem_cons_self)⟩
theorem f_Mod_25 : FS "RattleAtFiftyModel" 25 11 9 := ⟨_, rfl, by decide, Or.inl (gt_ps (ws := [.fieldLink "RattleAtFiftyModel" 25 "RattleAtFiftyModel" "halved" "[I"]) [988] (by decide +kernel) (by decide +kernel) _ List.mem_cons_self)⟩
theorem f_Mod_28 : FS "RattleAtFiftyModel" 28 11 10 := ⟨_, rfl, by decide, Or.inl (gt_ps (ws := [.fieldLink "RattleAtFiftyModel" 28 "RattleAtFiftyModel" "figures" "[I"]) [989] (by decide +kernel) (by decide +kernel) _ List.mem_cons_self)⟩
theorem f_Mod_31 : FS "RattleAtFiftyModel" 31 11 13 := ⟨_, rfl, by decide, Or.inl (gt_ps (ws := [.fieldLink "RattleAtFiftyModel" 31 "RattleAtFiftyModel" "kept" "[I"]) [992] (by decide +kernel) (by decide +kernel) _ List.mem_cons_self)⟩
theorem f_Mod_34 : FS "RattleAtFiftyModel" 34 11 14 := ⟨_, rfl, by decide, Or.inl (gt_ps (ws := [.fieldLink "RattleAtFiftyModel" 34 "RattleAtFiftyModel" "keptKind" "[I"]) [993] (by decide +kernel) (by decide +kernel) _ List.mem_cons_self)⟩
theorem f_Mod_37 : FS "RattleAtFiftyModel" 37 11 15 := ⟨_, rfl, by decide, Or.inl (gt_ps (ws := [.fieldLink "RattleAtFiftyModel" 37 "RattleAtFiftyModel" "keptFigure" "[I"]) [994] (by decide +kernel) (by decide +kernel) _ List.mem_cons_self)⟩
theorem f_Mod_40 : FS "RattleAtFiftyModel" 40 11 16 := ⟨_, rfl, by decide, Or.inl (gt_ps (ws := [.fieldLink "RattleAtFiftyModel" 40 "RattleAtFiftyModel" "sort" "[I"]) [995] (by decide +kernel) (by decide +kernel) _ List.mem_cons_self)⟩
theorem f_Mod_43 : FS "RattleAtFiftyModel" 43 11 17 := ⟨_, rfl, by decide, Or.inl (gt_ps (ws := [.fieldLink "RattleAtFiftyModel" 43 "RattleAtFiftyModel" "size" "[I"]) [996] (by decide +kernel) (by decide +kernel) _ List.mem_cons_self)⟩
theorem f_Mod_46 : FS "RattleAtFiftyModel" 46 11 18 := ⟨_, rfl, by decide, Or.inl (gt_ps (ws := [.fieldLink "RattleAtFiftyModel" 46 "RattleAtFiftyModel" "element" "[I"]) [997] (by decide +kernel) (by decide +kernel) _ List.mem_cons_self)⟩
theorem s_Mod_49 : SiteS "RattleAtFiftyModel" 49 m_Mod_isIn 3 := ⟨gt_ps [1053, 1051, 1052, 52] (by decide +kernel) (by decide +kernel), by unfold dOK; decide +kernel⟩
theorem s_Mod_53 : SiteS "RattleAtFiftyModel" 53 m_Mod_at 2 := ⟨gt_ps [1082, 1080, 1081, 52] (by decide +kernel) (by decide +kernel), by unfold dOK; decide +kernel⟩
theorem s_Mod_57 : SiteS "RattleAtFiftyModel" 57 m_Mod_most 2 := ⟨gt_ps [1120, 1118, 1119, 52] (by decide +kernel) (by decide +kernel), by unfold dOK; decide +kernel⟩
theorem s_Mod_60 : SiteS "RattleAtFiftyModel" 60 m_Mod_loudOf 3 := ⟨gt_ps [1117, 1115, 1116, 52] (by decide +kernel) (by decide +kernel), by unfold dOK; decide +kernel⟩
theorem s_Mod_64 : SiteS "RattleAtFiftyModel" 64 m_Mod_size 1 := ⟨gt_ps [1123, 1121, 1122, 52] (by decide +kernel) (by decide +kernel), by unfold dOK; decide +kernel⟩
theorem s_Mod_67 : SiteS "RattleAtFiftyModel" 67 m_Mod_partAt 4 := ⟨gt_ps [1114, 1112, 1113, 52] (by decide +kernel) (by decide +kernel), by unfold dOK; decide +kernel⟩
theorem s_Mod_71 : SiteS "RattleAtFiftyModel" 71 m_Mod_soundAt 3 := ⟨gt_ps [1111, 1109, 1110, 52] (by decide +kernel) (by decide +kernel), by unfold dOK; decide +kernel⟩
theorem s_Mod_74 : SiteS "RattleAtFiftyModel" 74 m_Mod_heardAt 3 := ⟨gt_ps [1108, 1106, 1107, 52] (by decide +kernel) (by decide +kernel), by unfold dOK; decide +kernel⟩
theorem s_Mod_77 : SiteS "RattleAtFiftyModel" 77 m_Mod_heardNow 1 := ⟨gt_ps [1105, 1103, 1104, 52] (by decide +kernel) (by decide +kernel), by unfold dOK; decide +kernel⟩
theorem s_Mod_81 : SiteS "RattleAtFiftyModel" 81 m_Mod_loosensOf 2 := ⟨gt_ps [1099, 1097, 1098, 52] (by decide +kernel) (by decide +kernel), by unfold dOK; decide +kernel⟩
theorem f_Mod_85 : FS "RattleAtFiftyModel" 85 11 5 := ⟨_, rfl, by decide, Or.inl (gt_ps (ws := [.fieldLink "RattleAtFiftyModel" 85 "RattleAtFiftyModel" "place" "I"]) [984] (by decide +kernel) (by decide +kernel) _ List.mem_cons_self)⟩
theorem f_Mod_89 : FS "RattleAtFiftyModel" 89 11 7 := ⟨_, rfl, by decide, Or.inl (gt_ps (ws := [.fieldLink "RattleAtFiftyModel" 89 "RattleAtFiftyModel" "rowEnd" "I"]) [986] (by decide +kernel) (by decide +kernel) _ List.mem_cons_self)⟩
theorem f_Mod_92 : FS "RattleAtFiftyModel" 92 11 6 := ⟨_, rfl, by decide, Or.inl (gt_ps (ws := [.fieldLink "RattleAtFiftyModel" 92 "RattleAtFiftyModel" "rowAt" "I"]) [985] (by decide +kernel) (by decide +kernel) _ List.mem_cons_self)⟩
theorem s_Mod_95 : SiteV "RattleAtFiftyModel" 95 m_Mod_here 0 := ⟨gt_ps [1061, 1058, 1060, 20, 52] (by decide +kernel) (by decide +kernel), by unfold dOK; decide +kernel⟩
theorem s_Mod_99 : SiteV "RattleAtFiftyModel" 99 m_Mod_readsNumber 2 := ⟨gt_ps [1065, 1062, 1064, 21, 52] (by decide +kernel) (by decide +kernel), by unfold dOK; decide +kernel⟩
theorem s_Mod_103 : SiteV "RattleAtFiftyModel" 103 m_Mod_isPart 1 := ⟨gt_ps [1093, 1090, 1092, 25, 52] (by decide +kernel) (by decide +kernel), by unfold dOK; decide +kernel⟩
theorem s_Mod_107 : SiteS "RattleAtFiftyModel" 107 m_Mod_puts 3 := ⟨gt_ps [1085, 1083, 1084, 52] (by decide +kernel) (by decide +kernel), by unfold dOK; decide +kernel⟩
theorem s_Mod_111 : SiteS "RattleAtFiftyModel" 111 m_Mod_isSeat 1 := ⟨gt_ps [1075, 1073, 1074, 52] (by decide +kernel) (by decide +kernel), by unfold dOK; decide +kernel⟩
theorem s_Mod_114 : SiteV "RattleAtFiftyModel" 114 m_Mod_addsPart 4 := ⟨gt_ps [1079, 1076, 1078, 23, 52] (by decide +kernel) (by decide +kernel), by unfold dOK; decide +kernel⟩
theorem s_Mod_118 : SiteV "RattleAtFiftyModel" 118 m_Mod_isThere 1 := ⟨gt_ps [1089, 1086, 1088, 24, 52] (by decide +kernel) (by decide +kernel), by unfold dOK; decide +kernel⟩
theorem s_Mod_121 : SiteS "RattleAtFiftyModel" 121 m_Mod_screw 2 := ⟨gt_ps [1096, 1094, 1095, 52] (by decide +kernel) (by decide +kernel), by unfold dOK; decide +kernel⟩
theorem s_Mod_124 : SiteS "RattleAtFiftyModel" 124 m_Mod_drive 1 := ⟨gt_ps [1102, 1100, 1101, 52] (by decide +kernel) (by decide +kernel), by unfold dOK; decide +kernel⟩
theorem s_Mod_127 : SiteV "RattleAtFiftyModel" 127 m_Mod_wrongRow 2 := ⟨gt_ps [1047, 1044, 1046, 18, 52] (by decide +kernel) (by decide +kernel), by unfold dOK; decide +kernel⟩
theorem s_Mod_130 : SiteV "RattleAtFiftyModel" 130 m_Mod_readsStatement 0 := ⟨gt_ps [1057, 1054, 1056, 19, 52] (by decide +kernel) (by decide +kernel), by unfold dOK; decide +kernel⟩
theorem s_Mod_134 : SiteS "RattleAtFiftyModel" 134 m_Mod_lays 2 := ⟨gt_ps [1068, 1066, 1067, 52] (by decide +kernel) (by decide +kernel), by unfold dOK; decide +kernel⟩
theorem s_Mod_138 : SiteV "RattleAtFiftyModel" 138 m_Mod_isDone 1 := ⟨gt_ps [1072, 1069, 1071, 22, 52] (by decide +kernel) (by decide +kernel), by unfold dOK; decide +kernel⟩
theorem s_Mod_141 : SiteS "RattleAtFiftyModel" 141 m_Mod_secondsOf 2 := ⟨gt_ps [1130, 1128, 1129, 52] (by decide +kernel) (by decide +kernel), by unfold dOK; decide +kernel⟩
theorem s_Mod_144 : SiteS "RattleAtFiftyModel" 144 m_Mod_isShelf 1 := ⟨gt_ps [1050, 1048, 1049, 52] (by decide +kernel) (by decide +kernel), by unfold dOK; decide +kernel⟩
theorem s_Mod_147 : SiteV "RattleAtFiftyModel" 147 m_Mod_wrongKept 1 := ⟨gt_ps [1138, 1135, 1137, 26, 52] (by decide +kernel) (by decide +kernel), by unfold dOK; decide +kernel⟩
theorem s_Mod_150 : SiteS "RattleAtFiftyModel" 150 m_Mod_loudestAt 2 := ⟨gt_ps [1173, 1171, 1172, 52] (by decide +kernel) (by decide +kernel), by unfold dOK; decide +kernel⟩
theorem s_Mod_153 : SiteS "RattleAtFiftyModel" 153 m_Mod_bits 1 := ⟨gt_ps [1188, 1186, 1187, 52] (by decide +kernel) (by decide +kernel), by unfold dOK; decide +kernel⟩
theorem s_Mod_156 : SiteV "RattleAtFiftyModel" 156 m_Mod_isTold 2 := ⟨gt_ps [1216, 1213, 1215, 29, 52] (by decide +kernel) (by decide +kernel), by unfold dOK; decide +kernel⟩
theorem s_Mod_159 : SiteV "RattleAtFiftyModel" 159 m_Mod_wrongPairs 1 := ⟨gt_ps [1208, 1205, 1207, 27, 52] (by decide +kernel) (by decide +kernel), by unfold dOK; decide +kernel⟩
theorem s_Mod_162 : SiteV "RattleAtFiftyModel" 162 m_Mod_whichOf 1 := ⟨gt_ps [1212, 1209, 1211, 28, 52] (by decide +kernel) (by decide +kernel), by unfold dOK; decide +kernel⟩
theorem s_Mod_166 : SiteV "RattleAtFiftyModel" 166 m_Mod_weightOf 1 := ⟨gt_ps [1241, 1238, 1240, 32, 52] (by decide +kernel) (by decide +kernel), by unfold dOK; decide +kernel⟩
theorem s_Mod_169 : SiteS "RattleAtFiftyModel" 169 m_Mod_gcd 2 := ⟨gt_ps [1247, 1245, 1246, 52] (by decide +kernel) (by decide +kernel), by unfold dOK; decide +kernel⟩
theorem s_Mod_173 : SiteV "RattleAtFiftyModel" 173 m_Mod_isSet 1 := ⟨gt_ps [1232, 1229, 1231, 30, 52] (by decide +kernel) (by decide +kernel), by unfold dOK; decide +kernel⟩
theorem s_Mod_176 : SiteV "RattleAtFiftyModel" 176 m_Mod_halvesOf 1 := ⟨gt_ps [1236, 1233, 1235, 31, 52] (by decide +kernel) (by decide +kernel), by unfold dOK; decide +kernel⟩
theorem s_Mod_179 : SiteS "RattleAtFiftyModel" 179 m_Mod_partOf 3 := ⟨gt_ps [1244, 1242, 1243, 52] (by decide +kernel) (by decide +kernel), by unfold dOK; decide +kernel⟩
theorem s_Mod_185 : SiteV "RattleAtFiftyModel" 185 m_Mod_oneByOneOf 1 := ⟨gt_ps [1256, 1253, 1255, 33, 52] (by decide +kernel) (by decide +kernel), by unfold dOK; decide +kernel⟩
theorem f_Mod_188 : FS "RattleAtFiftyModel" 188 11 11 := ⟨_, rfl, by decide, Or.inl (gt_ps (ws := [.fieldLink "RattleAtFiftyModel" 188 "RattleAtFiftyModel" "figuresMany" "I"]) [990] (by decide +kernel) (by decide +kernel) _ List.mem_cons_self)⟩
theorem s_Mod_191 : SiteV "RattleAtFiftyModel" 191 m_Mod_timesFigures 1 := ⟨gt_ps [1268, 1265, 1267, 34, 52] (by decide +kernel) (by decide +kernel), by unfold dOK; decide +kernel⟩
theorem s_Mod_195 : SiteV "RattleAtFiftyModel" 195 m_Mod_isWithinTen 1 := ⟨gt_ps [1272, 1269, 1271, 35, 52] (by decide +kernel) (by decide +kernel), by unfold dOK; decide +kernel⟩
theorem s_Mod_198 : SiteV "RattleAtFiftyModel" 198 m_Mod_wrongEar 2 := ⟨gt_ps [1280, 1277, 1279, 36, 52] (by decide +kernel) (by decide +kernel), by unfold dOK; decide +kernel⟩
theorem s_Mod_202 : SiteV "RattleAtFiftyModel" 202 m_Mod_earOf 3 := ⟨gt_ps [1285, 1282, 1284, 37, 52] (by decide +kernel) (by decide +kernel), by unfold dOK; decide +kernel⟩
theorem s_Mod_206 : SiteS "RattleAtFiftyModel" 206 m_Mod_figuresOf 1 := ⟨gt_ps [1296, 1294, 1295, 52] (by decide +kernel) (by decide +kernel), by unfold dOK; decide +kernel⟩
theorem s_Mod_212 : SiteS "RattleAtFiftyModel" 212 m_Mod_leastOf 1 := ⟨gt_ps [1312, 1310, 1311, 52] (by decide +kernel) (by decide +kernel), by unfold dOK; decide +kernel⟩
theorem s_Mod_215 : SiteV "RattleAtFiftyModel" 215 m_Mod_wrongBy 2 := ⟨gt_ps [1321, 1318, 1320, 38, 52] (by decide +kernel) (by decide +kernel), by unfold dOK; decide +kernel⟩
theorem f_Mod_218 : FS "RattleAtFiftyModel" 218 11 12 := ⟨_, rfl, by decide, Or.inl (gt_ps (ws := [.fieldLink "RattleAtFiftyModel" 218 "RattleAtFiftyModel" "seed" "I"]) [991] (by decide +kernel) (by decide +kernel) _ List.mem_cons_self)⟩
theorem s_Mod_224 : SiteV "RattleAtFiftyModel" 224 m_Mod_drawn 1 := ⟨gt_ps [1333, 1330, 1332, 39, 52] (by decide +kernel) (by decide +kernel), by unfold dOK; decide +kernel⟩
theorem f_Mod_227 : FS "RattleAtFiftyModel" 227 11 4 := ⟨_, rfl, by decide, Or.inl (gt_ps (ws := [.fieldLink "RattleAtFiftyModel" 227 "RattleAtFiftyModel" "hasImage" "Z"]) [983] (by decide +kernel) (by decide +kernel) _ List.mem_cons_self)⟩
theorem f_Mod_231 : FS "RattleAtFiftyModel" 231 11 19 := ⟨_, rfl, by decide, Or.inl (gt_ps (ws := [.fieldLink "RattleAtFiftyModel" 231 "RattleAtFiftyModel" "thrown" "I"]) [998] (by decide +kernel) (by decide +kernel) _ List.mem_cons_self)⟩
theorem s_Mod_234 : SiteS "RattleAtFiftyModel" 234 m_Mod_costBy 2 := ⟨gt_ps [1379, 1377, 1378, 52] (by decide +kernel) (by decide +kernel), by unfold dOK; decide +kernel⟩
theorem f_Car_9 : FS "RattleAtFifty$Car" 9 0 0 := ⟨_, rfl, by decide, Or.inl (gt_ps (ws := [.fieldLink "RattleAtFifty$Car" 9 "RattleAtFifty$Car" "kinds" "[LRattleAtFifty$Part;"]) [134] (by decide +kernel) (by decide +kernel) _ List.mem_cons_self)⟩
theorem f_Car_15 : FS "RattleAtFifty$Car" 15 0 1 := ⟨_, rfl, by decide, Or.inl (gt_ps (ws := [.fieldLink "RattleAtFifty$Car" 15 "RattleAtFifty$Car" "kind" "[I"]) [135] (by decide +kernel) (by decide +kernel) _ List.mem_cons_self)⟩
theorem f_Car_19 : FS "RattleAtFifty$Car" 19 0 2 := ⟨_, rfl, by decide, Or.inl (gt_ps (ws := [.fieldLink "RattleAtFifty$Car" 19 "RattleAtFifty$Car" "figure" "[I"]) [137] (by decide +kernel) (by decide +kernel) _ List.mem_cons_self)⟩
theorem f_Car_22 : FS "RattleAtFifty$Car" 22 0 3 := ⟨_, rfl, by decide, Or.inl (gt_ps (ws := [.fieldLink "RattleAtFifty$Car" 22 "RattleAtFifty$Car" "seat" "[I"]) [139] (by decide +kernel) (by decide +kernel) _ List.mem_cons_self)⟩
theorem f_Car_25 : FS "RattleAtFifty$Car" 25 0 4 := ⟨_, rfl, by decide, Or.inl (gt_ps (ws := [.fieldLink "RattleAtFifty$Car" 25 "RattleAtFifty$Car" "weight" "[I"]) [141] (by decide +kernel) (by decide +kernel) _ List.mem_cons_self)⟩
theorem f_Car_28 : FS "RattleAtFifty$Car" 28 0 5 := ⟨_, rfl, by decide, Or.inl (gt_ps (ws := [.fieldLink "RattleAtFifty$Car" 28 "RattleAtFifty$Car" "state" "[I"]) [143] (by decide +kernel) (by decide +kernel) _ List.mem_cons_self)⟩
theorem f_Car_31 : FS "RattleAtFifty$Car" 31 0 6 := ⟨_, rfl, by decide, Or.inl (gt_ps (ws := [.fieldLink "RattleAtFifty$Car" 31 "RattleAtFifty$Car" "drivesWedged" "[I"]) [145] (by decide +kernel) (by decide +kernel) _ List.mem_cons_self)⟩
theorem f_Car_34 : FS "RattleAtFifty$Car" 34 0 7 := ⟨_, rfl, by decide, Or.inl (gt_ps (ws := [.fieldLink "RattleAtFifty$Car" 34 "RattleAtFifty$Car" "setting" "[I"]) [146] (by decide +kernel) (by decide +kernel) _ List.mem_cons_self)⟩
theorem f_Car_37 : FS "RattleAtFifty$Car" 37 0 8 := ⟨_, rfl, by decide, Or.inl (gt_ps (ws := [.fieldLink "RattleAtFifty$Car" 37 "RattleAtFifty$Car" "parts" "I"]) [148] (by decide +kernel) (by decide +kernel) _ List.mem_cons_self)⟩
theorem f_Car_41 : FS "RattleAtFifty$Car" 41 0 9 := ⟨_, rfl, by decide, Or.inl (gt_ps (ws := [.fieldLink "RattleAtFifty$Car" 41 "RattleAtFifty$Car" "miles" "I"]) [150] (by decide +kernel) (by decide +kernel) _ List.mem_cons_self)⟩
theorem s_Car_50 : SiteSN "RattleAtFifty$Car" 50 m_Top_within 3 := ⟨gt_ps [247, 246, 41] (by decide +kernel) (by decide +kernel), by unfold dOK; decide +kernel, "RattleAtFifty", nt_at 249 (by decide +kernel) (by decide +kernel)⟩
theorem s_Car_54 : SiteSN "RattleAtFifty$Car" 54 m_Top_isSeat 1 := ⟨gt_ps [292, 291, 41] (by decide +kernel) (by decide +kernel), by unfold dOK; decide +kernel, "RattleAtFifty", nt_at 250 (by decide +kernel) (by decide +kernel)⟩
theorem s_Car_58 : SiteV "RattleAtFifty$Car" 58 m_Car_has 1 := ⟨gt_ps [306, 303, 304, 305, 50] (by decide +kernel) (by decide +kernel), by unfold dOK; decide +kernel⟩
theorem s_Car_61 : SiteV "RattleAtFifty$Car" 61 m_Car_kindOf 1 := ⟨gt_ps [310, 307, 309, 1, 50] (by decide +kernel) (by decide +kernel), by unfold dOK; decide +kernel⟩
theorem s_Car_65_Part : SiteO "RattleAtFifty$Car" 65 "RattleAtFifty$Part" ⟨"RattleAtFifty$Part", "secondsToHold", "(I)I"⟩ m_Part_secondsToHold 1 := ⟨gt_ps [337, 311, 314, 312, 313, 312, 42] (by decide +kernel) (by decide +kernel), by unfold dOK; decide +kernel⟩
theorem s_Car_65_Loose : SiteO "RattleAtFifty$Car" 65 "RattleAtFifty$Loose" ⟨"RattleAtFifty$Part", "secondsToHold", "(I)I"⟩ m_Loose_secondsToHold 1 := ⟨gt_ps [332, 311, 314, 312, 335, 331, 43] (by decide +kernel) (by decide +kernel), by unfold dOK; decide +kernel⟩
theorem s_Car_65_Tinny : SiteO "RattleAtFifty$Car" 65 "RattleAtFifty$Tinny" ⟨"RattleAtFifty$Part", "secondsToHold", "(I)I"⟩ m_Tinny_secondsToHold 1 := ⟨gt_ps [325, 311, 314, 312, 336, 324, 44] (by decide +kernel) (by decide +kernel), by unfold dOK; decide +kernel⟩
theorem s_Car_65_Frosty : SiteO "RattleAtFifty$Car" 65 "RattleAtFifty$Frosty" ⟨"RattleAtFifty$Part", "secondsToHold", "(I)I"⟩ m_Frosty_secondsToHold 1 := ⟨gt_ps [329, 311, 314, 312, 327, 328, 45] (by decide +kernel) (by decide +kernel), by unfold dOK; decide +kernel⟩
theorem s_Car_65_Heavy : SiteO "RattleAtFifty$Car" 65 "RattleAtFifty$Heavy" ⟨"RattleAtFifty$Part", "secondsToHold", "(I)I"⟩ m_Heavy_secondsToHold 1 := ⟨gt_ps [318, 311, 314, 312, 334, 317, 46] (by decide +kernel) (by decide +kernel), by unfold dOK; decide +kernel⟩
theorem s_Car_65_Doubled : SiteO "RattleAtFifty$Car" 65 "RattleAtFifty$Doubled" ⟨"RattleAtFifty$Part", "secondsToHold", "(I)I"⟩ m_Doubled_secondsToHold 1 := ⟨gt_ps [322, 311, 314, 312, 320, 321, 47] (by decide +kernel) (by decide +kernel), by unfold dOK; decide +kernel⟩
theorem s_Car_65_Dead : SiteO "RattleAtFifty$Car" 65 "RattleAtFifty$Dead" ⟨"RattleAtFifty$Part", "secondsToHold", "(I)I"⟩ m_Part_secondsToHold 1 := ⟨gt_ps [337, 311, 314, 312, 315, 312, 42] (by decide +kernel) (by decide +kernel), by unfold dOK; decide +kernel⟩
theorem s_Car_65_Deep : SiteO "RattleAtFifty$Car" 65 "RattleAtFifty$Deep" ⟨"RattleAtFifty$Part", "secondsToHold", "(I)I"⟩ m_Heavy_secondsToHold 1 := ⟨gt_ps [318, 311, 314, 312, 316, 317, 46] (by decide +kernel) (by decide +kernel), by unfold dOK; decide +kernel⟩
theorem s_Car_71_Part : SiteO "RattleAtFifty$Car" 71 "RattleAtFifty$Part" ⟨"RattleAtFifty$Part", "loosensBy", "()I"⟩ m_Part_loosensBy 0 := ⟨gt_ps [366, 350, 353, 351, 352, 351, 42] (by decide +kernel) (by decide +kernel), by unfold dOK; decide +kernel⟩
theorem s_Car_71_Loose : SiteO "RattleAtFifty$Car" 71 "RattleAtFifty$Loose" ⟨"RattleAtFifty$Part", "loosensBy", "()I"⟩ m_Loose_loosensBy 0 := ⟨gt_ps [361, 350, 353, 351, 364, 360, 43] (by decide +kernel) (by decide +kernel), by unfold dOK; decide +kernel⟩
theorem s_Car_71_Tinny : SiteO "RattleAtFifty$Car" 71 "RattleAtFifty$Tinny" ⟨"RattleAtFifty$Part", "loosensBy", "()I"⟩ m_Part_loosensBy 0 := ⟨gt_ps [366, 350, 353, 351, 365, 351, 42] (by decide +kernel) (by decide +kernel), by unfold dOK; decide +kernel⟩
theorem s_Car_71_Frosty : SiteO "RattleAtFifty$Car" 71 "RattleAtFifty$Frosty" ⟨"RattleAtFifty$Part", "loosensBy", "()I"⟩ m_Loose_loosensBy 0 := ⟨gt_ps [361, 350, 353, 351, 359, 360, 43] (by decide +kernel) (by decide +kernel), by unfold dOK; decide +kernel⟩
theorem s_Car_71_Heavy : SiteO "RattleAtFifty$Car" 71 "RattleAtFifty$Heavy" ⟨"RattleAtFifty$Part", "loosensBy", "()I"⟩ m_Part_loosensBy 0 := ⟨gt_ps [366, 350, 353, 351, 363, 351, 42] (by decide +kernel) (by decide +kernel), by unfold dOK; decide +kernel⟩
theorem s_Car_71_Doubled : SiteO "RattleAtFifty$Car" 71 "RattleAtFifty$Doubled" ⟨"RattleAtFifty$Part", "loosensBy", "()I"⟩ m_Part_loosensBy 0 := ⟨gt_ps [366, 350, 353, 351, 358, 351, 42] (by decide +kernel) (by decide +kernel), by unfold dOK; decide +kernel⟩
theorem s_Car_71_Dead : SiteO "RattleAtFifty$Car" 71 "RattleAtFifty$Dead" ⟨"RattleAtFifty$Part", "loosensBy", "()I"⟩ m_Dead_loosensBy 0 := ⟨gt_ps [356, 350, 353, 351, 354, 355, 48] (by decide +kernel) (by decide +kernel), by unfold dOK; decide +kernel⟩
theorem s_Car_71_Deep : SiteO "RattleAtFifty$Car" 71 "RattleAtFifty$Deep" ⟨"RattleAtFifty$Part", "loosensBy", "()I"⟩ m_Part_loosensBy 0 := ⟨gt_ps [366, 350, 353, 351, 357, 351, 42] (by decide +kernel) (by decide +kernel), by unfold dOK; decide +kernel⟩
theorem s_Car_84 : SiteV "RattleAtFifty$Car" 84 m_Car_endDrive 0 := ⟨gt_ps [377, 374, 375, 376, 50] (by decide +kernel) (by decide +kernel), by unfold dOK; decide +kernel⟩
theorem f_Car_87 : FS "RattleAtFifty$Car" 87 8 4 := ⟨_, rfl, by decide, Or.inr ⟨"RattleAtFifty", nt_at 150 (by decide +kernel) (by decide +kernel)⟩⟩
theorem s_Car_92 : SiteV "RattleAtFifty$Car" 92 m_Shelf_skips 1 := ⟨gt_ps [702, 708, 700, 701, 51] (by decide +kernel) (by decide +kernel), by unfold dOK; decide +kernel⟩
theorem f_Car_95 : FS "RattleAtFifty$Car" 95 8 5 := ⟨_, rfl, by decide, Or.inr ⟨"RattleAtFifty", nt_at 154 (by decide +kernel) (by decide +kernel)⟩⟩
theorem s_Car_98_Part : SiteO "RattleAtFifty$Car" 98 "RattleAtFifty$Part" ⟨"RattleAtFifty$Part", "loudness", "(IIII)I"⟩ m_Part_loudness 4 := ⟨gt_ps [420, 387, 390, 388, 389, 388, 42] (by decide +kernel) (by decide +kernel), by unfold dOK; decide +kernel⟩
theorem s_Car_98_Loose : SiteO "RattleAtFifty$Car" 98 "RattleAtFifty$Loose" ⟨"RattleAtFifty$Part", "loudness", "(IIII)I"⟩ m_Loose_loudness 4 := ⟨gt_ps [416, 387, 390, 388, 418, 415, 43] (by decide +kernel) (by decide +kernel), by unfold dOK; decide +kernel⟩
theorem s_Car_98_Tinny : SiteO "RattleAtFifty$Car" 98 "RattleAtFifty$Tinny" ⟨"RattleAtFifty$Part", "loudness", "(IIII)I"⟩ m_Tinny_loudness 4 := ⟨gt_ps [409, 387, 390, 388, 419, 408, 44] (by decide +kernel) (by decide +kernel), by unfold dOK; decide +kernel⟩
theorem s_Car_98_Frosty : SiteO "RattleAtFifty$Car" 98 "RattleAtFifty$Frosty" ⟨"RattleAtFifty$Part", "loudness", "(IIII)I"⟩ m_Frosty_loudness 4 := ⟨gt_ps [413, 387, 390, 388, 411, 412, 45] (by decide +kernel) (by decide +kernel), by unfold dOK; decide +kernel⟩
theorem s_Car_98_Heavy : SiteO "RattleAtFifty$Car" 98 "RattleAtFifty$Heavy" ⟨"RattleAtFifty$Part", "loudness", "(IIII)I"⟩ m_Heavy_loudness 4 := ⟨gt_ps [399, 387, 390, 388, 417, 398, 46] (by decide +kernel) (by decide +kernel), by unfold dOK; decide +kernel⟩
theorem s_Car_98_Doubled : SiteO "RattleAtFifty$Car" 98 "RattleAtFifty$Doubled" ⟨"RattleAtFifty$Part", "loudness", "(IIII)I"⟩ m_Doubled_loudness 4 := ⟨gt_ps [406, 387, 390, 388, 404, 405, 47] (by decide +kernel) (by decide +kernel), by unfold dOK; decide +kernel⟩
theorem s_Car_98_Dead : SiteO "RattleAtFifty$Car" 98 "RattleAtFifty$Dead" ⟨"RattleAtFifty$Part", "loudness", "(IIII)I"⟩ m_Dead_loudness 4 := ⟨gt_ps [393, 387, 390, 388, 391, 392, 48] (by decide +kernel) (by decide +kernel), by unfold dOK; decide +kernel⟩
theorem s_Car_98_Deep : SiteO "RattleAtFifty$Car" 98 "RattleAtFifty$Deep" ⟨"RattleAtFifty$Part", "loudness", "(IIII)I"⟩ m_Deep_loudness 4 := ⟨gt_ps [396, 387, 390, 388, 394, 395, 49] (by decide +kernel) (by decide +kernel), by unfold dOK; decide +kernel⟩
theorem s_Car_108 : SiteV "RattleAtFifty$Car" 108 m_Car_soundThere 3 := ⟨gt_ps [479, 476, 477, 478, 50] (by decide +kernel) (by decide +kernel), by unfold dOK; decide +kernel⟩
theorem s_Car_112 : SiteV "RattleAtFifty$Car" 112 m_Car_soundOfAllBut 3 := ⟨gt_ps [475, 472, 473, 474, 50] (by decide +kernel) (by decide +kernel), by unfold dOK; decide +kernel⟩
theorem s_Car_115 : SiteV "RattleAtFifty$Car" 115 m_Car_freeOnes 0 := ⟨gt_ps [526, 523, 524, 525, 50] (by decide +kernel) (by decide +kernel), by unfold dOK; decide +kernel⟩
theorem s_Car_118 : SiteS "RattleAtFifty$Car" 118 m_Integer_bitCount 1 := ⟨gt_ps [529, 527, 528, 56] (by decide +kernel) (by decide +kernel), by unfold dOK; decide +kernel⟩
theorem s_Car_123 : SiteV "RattleAtFifty$Car" 123 m_Car_seconds 1 := ⟨gt_ps [424, 537, 422, 423, 50] (by decide +kernel) (by decide +kernel), by unfold dOK; decide +kernel⟩
theorem s_Car_126 : SiteV "RattleAtFifty$Car" 126 m_Car_rattlingAt 1 := ⟨gt_ps [577, 574, 575, 576, 50] (by decide +kernel) (by decide +kernel), by unfold dOK; decide +kernel⟩
theorem s_Dead_1 : SiteIN "RattleAtFifty$Dead" 1 m_Part_init 0 := ⟨gt_ps [76, 75, 42] (by decide +kernel) (by decide +kernel), by unfold dOK; decide +kernel, by decide +kernel, rfl, "RattleAtFifty", nt_at 79 (by decide +kernel) (by decide +kernel)⟩
theorem s_Dead_7 : SiteU "RattleAtFifty$Dead" 7 m_Part_price 1 := ⟨gt_ps [825, 800, 796, 120, 794, 42] (by decide +kernel) (by decide +kernel), by decide +kernel, by decide +kernel⟩
theorem s_Deep_1 : SiteIN "RattleAtFifty$Deep" 1 m_Heavy_init 0 := ⟨gt_ps [104, 103, 46] (by decide +kernel) (by decide +kernel), by unfold dOK; decide +kernel, by decide +kernel, rfl, "RattleAtFifty", nt_at 86 (by decide +kernel) (by decide +kernel)⟩
theorem s_Deep_7 : SiteU "RattleAtFifty$Deep" 7 m_Heavy_loudness 4 := ⟨gt_ps [399, 397, 1387, 127, 398, 46] (by decide +kernel) (by decide +kernel), by decide +kernel, by decide +kernel⟩
theorem s_Deep_11 : SiteU "RattleAtFifty$Deep" 11 m_Heavy_price 1 := ⟨gt_ps [806, 804, 1390, 127, 805, 46] (by decide +kernel) (by decide +kernel), by decide +kernel, by decide +kernel⟩
theorem s_Doubled_1 : SiteIN "RattleAtFifty$Doubled" 1 m_Tinny_init 0 := ⟨gt_ps [90, 89, 44] (by decide +kernel) (by decide +kernel), by unfold dOK; decide +kernel, by decide +kernel, rfl, "RattleAtFifty", nt_at 72 (by decide +kernel) (by decide +kernel)⟩
theorem s_Doubled_7 : SiteU "RattleAtFifty$Doubled" 7 m_Tinny_loudness 4 := ⟨gt_ps [409, 407, 1388, 113, 408, 44] (by decide +kernel) (by decide +kernel), by decide +kernel, by decide +kernel⟩
theorem s_Doubled_11 : SiteU "RattleAtFifty$Doubled" 11 m_Tinny_secondsToHold 1 := ⟨gt_ps [325, 323, 1385, 113, 324, 44] (by decide +kernel) (by decide +kernel), by decide +kernel, by decide +kernel⟩
theorem s_Doubled_15 : SiteU "RattleAtFifty$Doubled" 15 m_Tinny_price 1 := ⟨gt_ps [813, 811, 1391, 113, 812, 44] (by decide +kernel) (by decide +kernel), by decide +kernel, by decide +kernel⟩
theorem s_Frosty_1 : SiteIN "RattleAtFifty$Frosty" 1 m_Loose_init 0 := ⟨gt_ps [83, 82, 43] (by decide +kernel) (by decide +kernel), by unfold dOK; decide +kernel, by decide +kernel, rfl, "RattleAtFifty", nt_at 58 (by decide +kernel) (by decide +kernel)⟩
theorem s_Frosty_7 : SiteU "RattleAtFifty$Frosty" 7 m_Loose_loudness 4 := ⟨gt_ps [416, 414, 1389, 99, 415, 43] (by decide +kernel) (by decide +kernel), by decide +kernel, by decide +kernel⟩
theorem s_Frosty_11 : SiteU "RattleAtFifty$Frosty" 11 m_Loose_secondsToHold 1 := ⟨gt_ps [332, 330, 1386, 99, 331, 43] (by decide +kernel) (by decide +kernel), by decide +kernel, by decide +kernel⟩
theorem s_Frosty_15 : SiteU "RattleAtFifty$Frosty" 15 m_Loose_price 1 := ⟨gt_ps [820, 818, 1392, 99, 819, 43] (by decide +kernel) (by decide +kernel), by decide +kernel, by decide +kernel⟩
theorem s_Heavy_1 : SiteIN "RattleAtFifty$Heavy" 1 m_Part_init 0 := ⟨gt_ps [76, 75, 42] (by decide +kernel) (by decide +kernel), by unfold dOK; decide +kernel, by decide +kernel, rfl, "RattleAtFifty", nt_at 65 (by decide +kernel) (by decide +kernel)⟩
theorem s_Heavy_7 : SiteU "RattleAtFifty$Heavy" 7 m_Part_loudness 4 := ⟨gt_ps [420, 400, 390, 106, 388, 42] (by decide +kernel) (by decide +kernel), by decide +kernel, by decide +kernel⟩
theorem s_Heavy_17 : SiteU "RattleAtFifty$Heavy" 17 m_Part_secondsToHold 1 := ⟨gt_ps [337, 319, 314, 106, 312, 42] (by decide +kernel) (by decide +kernel), by decide +kernel, by decide +kernel⟩
theorem s_Heavy_21 : SiteU "RattleAtFifty$Heavy" 21 m_Part_price 1 := ⟨gt_ps [825, 807, 796, 106, 794, 42] (by decide +kernel) (by decide +kernel), by decide +kernel, by decide +kernel⟩
theorem s_Loose_1 : SiteIN "RattleAtFifty$Loose" 1 m_Part_init 0 := ⟨gt_ps [76, 75, 42] (by decide +kernel) (by decide +kernel), by unfold dOK; decide +kernel, by decide +kernel, rfl, "RattleAtFifty", nt_at 44 (by decide +kernel) (by decide +kernel)⟩
theorem s_Loose_7 : SiteU "RattleAtFifty$Loose" 7 m_Part_secondsToHold 1 := ⟨gt_ps [337, 333, 314, 85, 312, 42] (by decide +kernel) (by decide +kernel), by decide +kernel, by decide +kernel⟩
theorem s_Loose_11 : SiteU "RattleAtFifty$Loose" 11 m_Part_loosensBy 0 := ⟨gt_ps [366, 362, 353, 85, 351, 42] (by decide +kernel) (by decide +kernel), by decide +kernel, by decide +kernel⟩
theorem s_Loose_15 : SiteU "RattleAtFifty$Loose" 15 m_Part_price 1 := ⟨gt_ps [825, 821, 796, 85, 794, 42] (by decide +kernel) (by decide +kernel), by decide +kernel, by decide +kernel⟩
theorem f_Road_9 : FS "RattleAtFifty$Road" 9 8 4 := ⟨_, rfl, by decide, Or.inr ⟨"RattleAtFifty", nt_at 149 (by decide +kernel) (by decide +kernel)⟩⟩
theorem f_Road_15 : FS "RattleAtFifty$Road" 15 8 5 := ⟨_, rfl, by decide, Or.inr ⟨"RattleAtFifty", nt_at 153 (by decide +kernel) (by decide +kernel)⟩⟩
theorem s_Road_19 : SiteS "RattleAtFifty$Road" 19 m_Road_digitsBehind 1 := ⟨gt_ps [257, 255, 256, 53] (by decide +kernel) (by decide +kernel), by unfold dOK; decide +kernel⟩
theorem s_Road_25 : SiteV "RattleAtFifty$Road" 25 m_Shelf_hasDigit 1 := ⟨gt_ps [261, 258, 259, 260, 51] (by decide +kernel) (by decide +kernel), by unfold dOK; decide +kernel⟩
theorem s_Road_29 : SiteS "RattleAtFifty$Road" 29 m_Road_can 3 := ⟨gt_ps [279, 277, 278, 53] (by decide +kernel) (by decide +kernel), by unfold dOK; decide +kernel⟩
theorem s_Road_33 : SiteV "RattleAtFifty$Road" 33 m_Shelf_number 2 := ⟨gt_ps [283, 280, 281, 282, 51] (by decide +kernel) (by decide +kernel), by unfold dOK; decide +kernel⟩
theorem s_Road_37 : SiteV "RattleAtFifty$Road" 37 m_Car_takeIn 4 := ⟨gt_ps [288, 285, 286, 287, 50] (by decide +kernel) (by decide +kernel), by unfold dOK; decide +kernel⟩
theorem s_Road_43 : SiteV "RattleAtFifty$Road" 43 m_Car_change 2 := ⟨gt_ps [296, 293, 294, 295, 50] (by decide +kernel) (by decide +kernel), by unfold dOK; decide +kernel⟩
theorem s_Road_46 : SiteV "RattleAtFifty$Road" 46 m_Car_hold 1 := ⟨gt_ps [302, 299, 300, 301, 50] (by decide +kernel) (by decide +kernel), by unfold dOK; decide +kernel⟩
theorem s_Road_49 : SiteV "RattleAtFifty$Road" 49 m_Car_wedge 1 := ⟨gt_ps [341, 338, 339, 340, 50] (by decide +kernel) (by decide +kernel), by unfold dOK; decide +kernel⟩
theorem s_Road_52 : SiteV "RattleAtFifty$Road" 52 m_Car_takeOut 1 := ⟨gt_ps [345, 342, 343, 344, 50] (by decide +kernel) (by decide +kernel), by unfold dOK; decide +kernel⟩
theorem s_Road_55 : SiteV "RattleAtFifty$Road" 55 m_Car_screw 1 := ⟨gt_ps [349, 346, 347, 348, 50] (by decide +kernel) (by decide +kernel), by unfold dOK; decide +kernel⟩
theorem s_Road_58 : SiteV "RattleAtFifty$Road" 58 m_Car_drive 1 := ⟨gt_ps [373, 370, 371, 372, 50] (by decide +kernel) (by decide +kernel), by unfold dOK; decide +kernel⟩
theorem f_Shelf_11 : FS "RattleAtFifty$Shelf" 11 8 0 := ⟨_, rfl, by decide, Or.inl (gt_ps (ws := [.fieldLink "RattleAtFifty$Shelf" 11 "RattleAtFifty$Shelf" "content" "I"]) [181] (by decide +kernel) (by decide +kernel) _ List.mem_cons_self)⟩
theorem f_Shelf_15 : FS "RattleAtFifty$Shelf" 15 8 1 := ⟨_, rfl, by decide, Or.inl (gt_ps (ws := [.fieldLink "RattleAtFifty$Shelf" 15 "RattleAtFifty$Shelf" "kind" "I"]) [182] (by decide +kernel) (by decide +kernel) _ List.mem_cons_self)⟩
theorem f_Shelf_18 : FS "RattleAtFifty$Shelf" 18 8 2 := ⟨_, rfl, by decide, Or.inl (gt_ps (ws := [.fieldLink "RattleAtFifty$Shelf" 18 "RattleAtFifty$Shelf" "figure" "I"]) [184] (by decide +kernel) (by decide +kernel) _ List.mem_cons_self)⟩
theorem f_Shelf_21 : FS "RattleAtFifty$Shelf" 21 8 3 := ⟨_, rfl, by decide, Or.inl (gt_ps (ws := [.fieldLink "RattleAtFifty$Shelf" 21 "RattleAtFifty$Shelf" "sort" "I"]) [186] (by decide +kernel) (by decide +kernel) _ List.mem_cons_self)⟩
theorem f_Shelf_24 : FS "RattleAtFifty$Shelf" 24 8 4 := ⟨_, rfl, by decide, Or.inl (gt_ps (ws := [.fieldLink "RattleAtFifty$Shelf" 24 "RattleAtFifty$Shelf" "size" "I"]) [188] (by decide +kernel) (by decide +kernel) _ List.mem_cons_self)⟩
theorem f_Shelf_27 : FS "RattleAtFifty$Shelf" 27 8 5 := ⟨_, rfl, by decide, Or.inl (gt_ps (ws := [.fieldLink "RattleAtFifty$Shelf" 27 "RattleAtFifty$Shelf" "elements" "[I"]) [192] (by decide +kernel) (by decide +kernel) _ List.mem_cons_self)⟩
theorem s_Shelf_31 : SiteV "RattleAtFifty$Shelf" 31 m_Shelf_hasPlace 1 := ⟨gt_ps [265, 262, 263, 264, 51] (by decide +kernel) (by decide +kernel), by unfold dOK; decide +kernel⟩
theorem s_Shelf_36 : SiteSN "RattleAtFifty$Shelf" 36 m_Top_isPace 1 := ⟨gt_ps [491, 490, 41] (by decide +kernel) (by decide +kernel), by unfold dOK; decide +kernel, "RattleAtFifty", nt_at 524 (by decide +kernel) (by decide +kernel)⟩
theorem s_Shelf_39 : SiteSN "RattleAtFifty$Shelf" 39 m_Top_isEither 1 := ⟨gt_ps [518, 517, 41] (by decide +kernel) (by decide +kernel), by unfold dOK; decide +kernel, "RattleAtFifty", nt_at 525 (by decide +kernel) (by decide +kernel)⟩
theorem s_Shelf_42 : SiteSN "RattleAtFifty$Shelf" 42 m_Top_within 3 := ⟨gt_ps [247, 246, 41] (by decide +kernel) (by decide +kernel), by unfold dOK; decide +kernel, "RattleAtFifty", nt_at 226 (by decide +kernel) (by decide +kernel)⟩
theorem s_Shelf_46 : SiteV "RattleAtFifty$Shelf" 46 m_Shelf_hasDigit 1 := ⟨gt_ps [261, 284, 259, 260, 51] (by decide +kernel) (by decide +kernel), by unfold dOK; decide +kernel⟩
theorem s_Tinny_1 : SiteIN "RattleAtFifty$Tinny" 1 m_Part_init 0 := ⟨gt_ps [76, 75, 42] (by decide +kernel) (by decide +kernel), by unfold dOK; decide +kernel, by decide +kernel, rfl, "RattleAtFifty", nt_at 51 (by decide +kernel) (by decide +kernel)⟩
theorem s_Tinny_7 : SiteU "RattleAtFifty$Tinny" 7 m_Part_loudness 4 := ⟨gt_ps [420, 410, 390, 92, 388, 42] (by decide +kernel) (by decide +kernel), by decide +kernel, by decide +kernel⟩
theorem s_Tinny_11 : SiteU "RattleAtFifty$Tinny" 11 m_Part_secondsToHold 1 := ⟨gt_ps [337, 326, 314, 92, 312, 42] (by decide +kernel) (by decide +kernel), by decide +kernel, by decide +kernel⟩
theorem s_Tinny_15 : SiteU "RattleAtFifty$Tinny" 15 m_Part_price 1 := ⟨gt_ps [825, 814, 796, 92, 794, 42] (by decide +kernel) (by decide +kernel), by decide +kernel, by decide +kernel⟩
theorem s_Law_7 : SiteV "RattleAtFiftyLaw" 7 m_Top_element 2 := ⟨gt_ps [953, 950, 951, 952, 41] (by decide +kernel) (by decide +kernel), by unfold dOK; decide +kernel⟩
theorem s_Law_17 : SiteI "RattleAtFiftyLaw" 17 m_Top_init 0 := ⟨gt_ps [67, 65, 66, 41] (by decide +kernel) (by decide +kernel), by unfold dOK; decide +kernel, by decide +kernel, rfl⟩
theorem s_Law_20 : SiteI "RattleAtFiftyLaw" 20 m_Mod_init 0 := ⟨gt_ps [977, 975, 976, 52] (by decide +kernel) (by decide +kernel), by unfold dOK; decide +kernel, by decide +kernel, rfl⟩
theorem s_Law_21 : SiteV "RattleAtFiftyLaw" 21 m_Top_road 1 := ⟨gt_ps [237, 234, 235, 236, 41] (by decide +kernel) (by decide +kernel), by unfold dOK; decide +kernel⟩
theorem s_Law_25 : SiteV "RattleAtFiftyLaw" 25 m_Mod_road 1 := ⟨gt_ps [1043, 1040, 1041, 1042, 52] (by decide +kernel) (by decide +kernel), by unfold dOK; decide +kernel⟩
theorem s_Law_26 : SiteV "RattleAtFiftyLaw" 26 m_Top_part 2 := ⟨gt_ps [381, 378, 379, 380, 41] (by decide +kernel) (by decide +kernel), by unfold dOK; decide +kernel⟩
theorem s_Law_30 : SiteV "RattleAtFiftyLaw" 30 m_Mod_part 2 := ⟨gt_ps [1127, 1124, 1125, 1126, 52] (by decide +kernel) (by decide +kernel), by unfold dOK; decide +kernel⟩
theorem s_Law_31 : SiteV "RattleAtFiftyLaw" 31 m_Top_adds 3 := ⟨gt_ps [432, 429, 430, 431, 41] (by decide +kernel) (by decide +kernel), by unfold dOK; decide +kernel⟩
theorem s_Law_35 : SiteV "RattleAtFiftyLaw" 35 m_Mod_adds 3 := ⟨gt_ps [1134, 1131, 1132, 1133, 52] (by decide +kernel) (by decide +kernel), by unfold dOK; decide +kernel⟩
theorem s_Law_36 : SiteV "RattleAtFiftyLaw" 36 m_Top_holds 1 := ⟨gt_ps [442, 439, 440, 441, 41] (by decide +kernel) (by decide +kernel), by unfold dOK; decide +kernel⟩
theorem s_Law_39 : SiteV "RattleAtFiftyLaw" 39 m_Mod_holds 1 := ⟨gt_ps [1142, 1139, 1140, 1141, 52] (by decide +kernel) (by decide +kernel), by unfold dOK; decide +kernel⟩
theorem s_Law_40 : SiteV "RattleAtFiftyLaw" 40 m_Top_wedges 1 := ⟨gt_ps [447, 444, 445, 446, 41] (by decide +kernel) (by decide +kernel), by unfold dOK; decide +kernel⟩
theorem s_Law_43 : SiteV "RattleAtFiftyLaw" 43 m_Mod_wedges 1 := ⟨gt_ps [1146, 1143, 1144, 1145, 52] (by decide +kernel) (by decide +kernel), by unfold dOK; decide +kernel⟩
theorem s_Law_44 : SiteV "RattleAtFiftyLaw" 44 m_Top_outs 1 := ⟨gt_ps [452, 449, 450, 451, 41] (by decide +kernel) (by decide +kernel), by unfold dOK; decide +kernel⟩
theorem s_Law_47 : SiteV "RattleAtFiftyLaw" 47 m_Mod_outs 1 := ⟨gt_ps [1150, 1147, 1148, 1149, 52] (by decide +kernel) (by decide +kernel), by unfold dOK; decide +kernel⟩
theorem s_Law_48 : SiteV "RattleAtFiftyLaw" 48 m_Top_screws 1 := ⟨gt_ps [457, 454, 455, 456, 41] (by decide +kernel) (by decide +kernel), by unfold dOK; decide +kernel⟩
theorem s_Law_51 : SiteV "RattleAtFiftyLaw" 51 m_Mod_screws 1 := ⟨gt_ps [1154, 1151, 1152, 1153, 52] (by decide +kernel) (by decide +kernel), by unfold dOK; decide +kernel⟩
theorem s_Law_52 : SiteV "RattleAtFiftyLaw" 52 m_Top_set 2 := ⟨gt_ps [462, 459, 460, 461, 41] (by decide +kernel) (by decide +kernel), by unfold dOK; decide +kernel⟩
theorem s_Law_55 : SiteV "RattleAtFiftyLaw" 55 m_Mod_set 2 := ⟨gt_ps [1158, 1155, 1156, 1157, 52] (by decide +kernel) (by decide +kernel), by unfold dOK; decide +kernel⟩
theorem s_Law_56 : SiteV "RattleAtFiftyLaw" 56 m_Top_drives 1 := ⟨gt_ps [467, 464, 465, 466, 41] (by decide +kernel) (by decide +kernel), by unfold dOK; decide +kernel⟩
theorem s_Law_59 : SiteV "RattleAtFiftyLaw" 59 m_Mod_drives 1 := ⟨gt_ps [1162, 1159, 1160, 1161, 52] (by decide +kernel) (by decide +kernel), by unfold dOK; decide +kernel⟩
theorem s_Law_60 : SiteV "RattleAtFiftyLaw" 60 m_Top_heard 2 := ⟨gt_ps [488, 485, 486, 487, 41] (by decide +kernel) (by decide +kernel), by unfold dOK; decide +kernel⟩
theorem s_Law_63 : SiteV "RattleAtFiftyLaw" 63 m_Mod_heard 2 := ⟨gt_ps [1166, 1163, 1164, 1165, 52] (by decide +kernel) (by decide +kernel), by unfold dOK; decide +kernel⟩
theorem s_Law_64 : SiteV "RattleAtFiftyLaw" 64 m_Top_loudest 1 := ⟨gt_ps [499, 496, 497, 498, 41] (by decide +kernel) (by decide +kernel), by unfold dOK; decide +kernel⟩
theorem s_Law_67 : SiteV "RattleAtFiftyLaw" 67 m_Mod_loudest 1 := ⟨gt_ps [1170, 1167, 1168, 1169, 52] (by decide +kernel) (by decide +kernel), by unfold dOK; decide +kernel⟩
theorem s_Law_68 : SiteV "RattleAtFiftyLaw" 68 m_Top_paces 2 := ⟨gt_ps [507, 504, 505, 506, 41] (by decide +kernel) (by decide +kernel), by unfold dOK; decide +kernel⟩
theorem s_Law_71 : SiteV "RattleAtFiftyLaw" 71 m_Mod_paces 2 := ⟨gt_ps [1177, 1174, 1175, 1176, 52] (by decide +kernel) (by decide +kernel), by unfold dOK; decide +kernel⟩
theorem s_Law_72 : SiteV "RattleAtFiftyLaw" 72 m_Top_silentFrom 2 := ⟨gt_ps [511, 508, 509, 510, 41] (by decide +kernel) (by decide +kernel), by unfold dOK; decide +kernel⟩
theorem s_Law_75 : SiteV "RattleAtFiftyLaw" 75 m_Mod_silentFrom 2 := ⟨gt_ps [1181, 1178, 1179, 1180, 52] (by decide +kernel) (by decide +kernel), by unfold dOK; decide +kernel⟩
theorem s_Law_76 : SiteV "RattleAtFiftyLaw" 76 m_Top_holdAll 1 := ⟨gt_ps [515, 512, 513, 514, 41] (by decide +kernel) (by decide +kernel), by unfold dOK; decide +kernel⟩
theorem s_Law_79 : SiteV "RattleAtFiftyLaw" 79 m_Mod_holdAll 1 := ⟨gt_ps [1185, 1182, 1183, 1184, 52] (by decide +kernel) (by decide +kernel), by unfold dOK; decide +kernel⟩
theorem s_Law_80 : SiteV "RattleAtFiftyLaw" 80 m_Top_radio 1 := ⟨gt_ps [541, 538, 539, 540, 41] (by decide +kernel) (by decide +kernel), by unfold dOK; decide +kernel⟩
theorem s_Law_83 : SiteV "RattleAtFiftyLaw" 83 m_Mod_radio 1 := ⟨gt_ps [1192, 1189, 1190, 1191, 52] (by decide +kernel) (by decide +kernel), by unfold dOK; decide +kernel⟩
theorem s_Law_84 : SiteV "RattleAtFiftyLaw" 84 m_Top_wanted 1 := ⟨gt_ps [546, 543, 544, 545, 41] (by decide +kernel) (by decide +kernel), by unfold dOK; decide +kernel⟩
theorem s_Law_87 : SiteV "RattleAtFiftyLaw" 87 m_Mod_wanted 1 := ⟨gt_ps [1196, 1193, 1194, 1195, 52] (by decide +kernel) (by decide +kernel), by unfold dOK; decide +kernel⟩
theorem s_Law_88 : SiteV "RattleAtFiftyLaw" 88 m_Top_bestSeat 0 := ⟨gt_ps [551, 548, 549, 550, 41] (by decide +kernel) (by decide +kernel), by unfold dOK; decide +kernel⟩
theorem s_Law_92 : SiteV "RattleAtFiftyLaw" 92 m_Mod_bestSeat 0 := ⟨gt_ps [1200, 1197, 1198, 1199, 52] (by decide +kernel) (by decide +kernel), by unfold dOK; decide +kernel⟩
theorem s_Law_93 : SiteV "RattleAtFiftyLaw" 93 m_Top_which 2 := ⟨gt_ps [555, 552, 553, 554, 41] (by decide +kernel) (by decide +kernel), by unfold dOK; decide +kernel⟩
theorem s_Law_96 : SiteV "RattleAtFiftyLaw" 96 m_Mod_which 2 := ⟨gt_ps [1204, 1201, 1202, 1203, 52] (by decide +kernel) (by decide +kernel), by unfold dOK; decide +kernel⟩
theorem s_Law_97 : SiteV "RattleAtFiftyLaw" 97 m_Top_two 2 := ⟨gt_ps [582, 579, 580, 581, 41] (by decide +kernel) (by decide +kernel), by unfold dOK; decide +kernel⟩
theorem s_Law_100 : SiteV "RattleAtFiftyLaw" 100 m_Mod_two 2 := ⟨gt_ps [1220, 1217, 1218, 1219, 52] (by decide +kernel) (by decide +kernel), by unfold dOK; decide +kernel⟩
theorem s_Law_101 : SiteV "RattleAtFiftyLaw" 101 m_Top_tryNext 1 := ⟨gt_ps [586, 583, 584, 585, 41] (by decide +kernel) (by decide +kernel), by unfold dOK; decide +kernel⟩
theorem s_Law_104 : SiteV "RattleAtFiftyLaw" 104 m_Mod_tryNext 1 := ⟨gt_ps [1224, 1221, 1222, 1223, 52] (by decide +kernel) (by decide +kernel), by unfold dOK; decide +kernel⟩
theorem s_Law_105 : SiteV "RattleAtFiftyLaw" 105 m_Top_halves 2 := ⟨gt_ps [596, 593, 594, 595, 41] (by decide +kernel) (by decide +kernel), by unfold dOK; decide +kernel⟩
theorem s_Law_108 : SiteV "RattleAtFiftyLaw" 108 m_Mod_halves 2 := ⟨gt_ps [1228, 1225, 1226, 1227, 52] (by decide +kernel) (by decide +kernel), by unfold dOK; decide +kernel⟩
theorem s_Law_109 : SiteV "RattleAtFiftyLaw" 109 m_Top_oneByOne 2 := ⟨gt_ps [630, 627, 628, 629, 41] (by decide +kernel) (by decide +kernel), by unfold dOK; decide +kernel⟩
theorem s_Law_112 : SiteV "RattleAtFiftyLaw" 112 m_Mod_oneByOne 2 := ⟨gt_ps [1252, 1249, 1250, 1251, 52] (by decide +kernel) (by decide +kernel), by unfold dOK; decide +kernel⟩
theorem s_Law_113 : SiteV "RattleAtFiftyLaw" 113 m_Top_worse 1 := ⟨gt_ps [642, 639, 640, 641, 41] (by decide +kernel) (by decide +kernel), by unfold dOK; decide +kernel⟩
theorem s_Law_116 : SiteV "RattleAtFiftyLaw" 116 m_Mod_worse 1 := ⟨gt_ps [1260, 1257, 1258, 1259, 52] (by decide +kernel) (by decide +kernel), by unfold dOK; decide +kernel⟩
theorem s_Law_117 : SiteV "RattleAtFiftyLaw" 117 m_Top_gone 2 := ⟨gt_ps [646, 643, 644, 645, 41] (by decide +kernel) (by decide +kernel), by unfold dOK; decide +kernel⟩
theorem s_Law_120 : SiteV "RattleAtFiftyLaw" 120 m_Mod_gone 2 := ⟨gt_ps [1264, 1261, 1262, 1263, 52] (by decide +kernel) (by decide +kernel), by unfold dOK; decide +kernel⟩
theorem s_Law_121 : SiteV "RattleAtFiftyLaw" 121 m_Top_ear 4 := ⟨gt_ps [662, 659, 660, 661, 41] (by decide +kernel) (by decide +kernel), by unfold dOK; decide +kernel⟩
theorem s_Law_125 : SiteV "RattleAtFiftyLaw" 125 m_Mod_ear 4 := ⟨gt_ps [1276, 1273, 1274, 1275, 52] (by decide +kernel) (by decide +kernel), by unfold dOK; decide +kernel⟩
theorem s_Law_126 : SiteV "RattleAtFiftyLaw" 126 m_Top_likeliest 2 := ⟨gt_ps [673, 670, 671, 672, 41] (by decide +kernel) (by decide +kernel), by unfold dOK; decide +kernel⟩
theorem s_Law_129 : SiteV "RattleAtFiftyLaw" 129 m_Mod_likeliest 2 := ⟨gt_ps [1289, 1286, 1287, 1288, 52] (by decide +kernel) (by decide +kernel), by unfold dOK; decide +kernel⟩
theorem s_Law_130 : SiteV "RattleAtFiftyLaw" 130 m_Top_mends 1 := ⟨gt_ps [677, 674, 675, 676, 41] (by decide +kernel) (by decide +kernel), by unfold dOK; decide +kernel⟩
theorem s_Law_133 : SiteV "RattleAtFiftyLaw" 133 m_Mod_mends 1 := ⟨gt_ps [1293, 1290, 1291, 1292, 52] (by decide +kernel) (by decide +kernel), by unfold dOK; decide +kernel⟩
theorem s_Law_134 : SiteV "RattleAtFiftyLaw" 134 m_Top_mechanic 4 := ⟨gt_ps [685, 682, 683, 684, 41] (by decide +kernel) (by decide +kernel), by unfold dOK; decide +kernel⟩
theorem s_Law_138 : SiteV "RattleAtFiftyLaw" 138 m_Mod_mechanic 4 := ⟨gt_ps [1300, 1297, 1298, 1299, 52] (by decide +kernel) (by decide +kernel), by unfold dOK; decide +kernel⟩
theorem s_Law_139 : SiteV "RattleAtFiftyLaw" 139 m_Top_worth 1 := ⟨gt_ps [690, 687, 688, 689, 41] (by decide +kernel) (by decide +kernel), by unfold dOK; decide +kernel⟩
theorem s_Law_142 : SiteV "RattleAtFiftyLaw" 142 m_Mod_worth 1 := ⟨gt_ps [1305, 1302, 1303, 1304, 52] (by decide +kernel) (by decide +kernel), by unfold dOK; decide +kernel⟩
theorem s_Law_143 : SiteV "RattleAtFiftyLaw" 143 m_Top_quiet 2 := ⟨gt_ps [694, 691, 692, 693, 41] (by decide +kernel) (by decide +kernel), by unfold dOK; decide +kernel⟩
theorem s_Law_146 : SiteV "RattleAtFiftyLaw" 146 m_Mod_quiet 2 := ⟨gt_ps [1309, 1306, 1307, 1308, 52] (by decide +kernel) (by decide +kernel), by unfold dOK; decide +kernel⟩
theorem s_Law_147 : SiteV "RattleAtFiftyLaw" 147 m_Top_forged 1 := ⟨gt_ps [712, 709, 710, 711, 41] (by decide +kernel) (by decide +kernel), by unfold dOK; decide +kernel⟩
theorem s_Law_150 : SiteV "RattleAtFiftyLaw" 150 m_Mod_forged 1 := ⟨gt_ps [1317, 1314, 1315, 1316, 52] (by decide +kernel) (by decide +kernel), by unfold dOK; decide +kernel⟩
theorem s_Law_151 : SiteV "RattleAtFiftyLaw" 151 m_Top_judge 1 := ⟨gt_ps [716, 713, 714, 715, 41] (by decide +kernel) (by decide +kernel), by unfold dOK; decide +kernel⟩
theorem s_Law_154 : SiteV "RattleAtFiftyLaw" 154 m_Mod_judge 1 := ⟨gt_ps [1325, 1322, 1323, 1324, 52] (by decide +kernel) (by decide +kernel), by unfold dOK; decide +kernel⟩
theorem s_Law_155 : SiteV "RattleAtFiftyLaw" 155 m_Top_winters 3 := ⟨gt_ps [721, 718, 719, 720, 41] (by decide +kernel) (by decide +kernel), by unfold dOK; decide +kernel⟩
theorem s_Law_158 : SiteV "RattleAtFiftyLaw" 158 m_Mod_winters 3 := ⟨gt_ps [1329, 1326, 1327, 1328, 52] (by decide +kernel) (by decide +kernel), by unfold dOK; decide +kernel⟩
theorem s_Law_159 : SiteV "RattleAtFiftyLaw" 159 m_Top_image 0 := ⟨gt_ps [733, 730, 731, 732, 41] (by decide +kernel) (by decide +kernel), by unfold dOK; decide +kernel⟩
theorem s_Law_162 : SiteV "RattleAtFiftyLaw" 162 m_Mod_image 0 := ⟨gt_ps [1340, 1337, 1338, 1339, 52] (by decide +kernel) (by decide +kernel), by unfold dOK; decide +kernel⟩
theorem s_Law_163 : SiteV "RattleAtFiftyLaw" 163 m_Top_restore 0 := ⟨gt_ps [737, 734, 735, 736, 41] (by decide +kernel) (by decide +kernel), by unfold dOK; decide +kernel⟩
theorem s_Law_166 : SiteV "RattleAtFiftyLaw" 166 m_Mod_restore 0 := ⟨gt_ps [1344, 1341, 1342, 1343, 52] (by decide +kernel) (by decide +kernel), by unfold dOK; decide +kernel⟩
theorem s_Law_167 : SiteV "RattleAtFiftyLaw" 167 m_Top_count 1 := ⟨gt_ps [741, 738, 739, 740, 41] (by decide +kernel) (by decide +kernel), by unfold dOK; decide +kernel⟩
theorem s_Law_170 : SiteV "RattleAtFiftyLaw" 170 m_Mod_count 1 := ⟨gt_ps [1348, 1345, 1346, 1347, 52] (by decide +kernel) (by decide +kernel), by unfold dOK; decide +kernel⟩
theorem s_Law_171 : SiteV "RattleAtFiftyLaw" 171 m_Top_keep 4 := ⟨gt_ps [746, 743, 744, 745, 41] (by decide +kernel) (by decide +kernel), by unfold dOK; decide +kernel⟩
theorem s_Law_174 : SiteV "RattleAtFiftyLaw" 174 m_Mod_keep 4 := ⟨gt_ps [1356, 1353, 1354, 1355, 52] (by decide +kernel) (by decide +kernel), by unfold dOK; decide +kernel⟩
theorem s_Law_175 : SiteV "RattleAtFiftyLaw" 175 m_Top_row 3 := ⟨gt_ps [758, 755, 756, 757, 41] (by decide +kernel) (by decide +kernel), by unfold dOK; decide +kernel⟩
theorem s_Law_178 : SiteV "RattleAtFiftyLaw" 178 m_Mod_row 3 := ⟨gt_ps [1360, 1357, 1358, 1359, 52] (by decide +kernel) (by decide +kernel), by unfold dOK; decide +kernel⟩
theorem s_Law_179 : SiteV "RattleAtFiftyLaw" 179 m_Top_put 3 := ⟨gt_ps [766, 763, 764, 765, 41] (by decide +kernel) (by decide +kernel), by unfold dOK; decide +kernel⟩
theorem s_Law_182 : SiteV "RattleAtFiftyLaw" 182 m_Mod_put 3 := ⟨gt_ps [1364, 1361, 1362, 1363, 52] (by decide +kernel) (by decide +kernel), by unfold dOK; decide +kernel⟩
theorem s_Law_188 : SiteV "RattleAtFiftyLaw" 188 m_Mod_element 2 := ⟨gt_ps [1368, 1365, 1366, 1367, 52] (by decide +kernel) (by decide +kernel), by unfold dOK; decide +kernel⟩
theorem s_Law_189 : SiteV "RattleAtFiftyLaw" 189 m_Mod_thrown 0 := ⟨gt_ps [1352, 1349, 1350, 1351, 52] (by decide +kernel) (by decide +kernel), by unfold dOK; decide +kernel⟩
theorem s_Law_192 : SiteV "RattleAtFiftyLaw" 192 m_Top_copy 5 := ⟨gt_ps [775, 772, 773, 774, 41] (by decide +kernel) (by decide +kernel), by unfold dOK; decide +kernel⟩
theorem s_Law_196 : SiteV "RattleAtFiftyLaw" 196 m_Mod_copy 5 := ⟨gt_ps [1372, 1369, 1370, 1371, 52] (by decide +kernel) (by decide +kernel), by unfold dOK; decide +kernel⟩
theorem s_Law_197 : SiteV "RattleAtFiftyLaw" 197 m_Top_cost 1 := ⟨gt_ps [788, 785, 786, 787, 41] (by decide +kernel) (by decide +kernel), by unfold dOK; decide +kernel⟩
theorem s_Law_200 : SiteV "RattleAtFiftyLaw" 200 m_Mod_cost 1 := ⟨gt_ps [1376, 1373, 1374, 1375, 52] (by decide +kernel) (by decide +kernel), by unfold dOK; decide +kernel⟩
theorem s_Law_204 : SiteV "RattleAtFiftyLaw" 204 m_Mod_toss 1 := ⟨gt_ps [1383, 1380, 1381, 1382, 52] (by decide +kernel) (by decide +kernel), by unfold dOK; decide +kernel⟩
