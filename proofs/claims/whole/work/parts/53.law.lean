def m_Law_law : MI := (yL_law, cL_law, 8, ret, room_1)
def LW (w : AW) (D : Int → Int → Int) (n mi hi : Int) (Di : Int → Int → Int) (ni mj : Int) (sh E : Int → Int → Int) : Prop := Comp w D n mi hi Di ni mj sh E ∧ Mod w D n mi hi Di ni mj sh E ∧ ∃ f0, w 67 = eL 1 f0
section LAWR
variable {l : Launch} {M : MI} {ad : Nat → Nat} {G : JG} {X : List (Nat × Nat × (Int → Int))} {al : Bool} {Z : JZ} {N cells slots pc pc' tgt : Nat} {L : List (Option AV)} {st : List AV} {w : AW}
theorem j_icmpE {a off : Int} (hd : JD M pc (.if_icmp .eq off) 3) (ht : (pc : Int) + off = (tgt : Int)) (k : J l M ad G X al Z N cells slots tgt L st w) : J l M ad G X al Z N cells slots pc L (aI a :: aI a :: st) w := by
  intro p e s m args below meth c A H locs ls C P D S sz hl
  exact lv_icmp_eq C.1.1 C.1.2.1 hd ht (fun h => k p e s m args below meth c A H locs ls C P D S sz hl) (fun h => absurd rfl h)
theorem j_lcmpE {a : Int} (hd : JD M pc .lcmp 1) (hp : pc + 1 = pc') (k : J l M ad G X al Z N cells slots pc' L (aI 0 :: st) w) : J l M ad G X al Z N cells slots pc L (aL a :: aL a :: st) w := by
  subst hp
  intro p e s m args below meth c A H locs ls C P D S sz hl
  refine W.lcmp C.1.1 C.1.2.1 hd ?_
  have ex : lg_cmp (Int64.ofInt a) (Int64.ofInt a) = Int32.ofInt 0 := by
    unfold lg_cmp
    simp
  rw [ex]
  exact k p e s m args below meth c A H locs ls C P D S sz hl
theorem rmL {Mc : MI} {rest : List AV} (hs : cells + 1 ≤ 601024 ∧ slots + 6 ≤ 7293034) (h : (decide (Mc.2.2.2.2.frames + 1 ≤ 11) && decide (8 + (Mc.2.2.1 + 11) + Mc.2.2.2.2.locals ≤ 420) && decide ((rest.map jcat).sum ≤ 8) && decide (Mc.2.2.2.2.cells ≤ 1) && decide (Mc.2.2.2.2.slots ≤ 6)) = true) : rmB m_Law_law Mc cells slots rest = true := by
  simp only [rmB, Bool.and_eq_true, decide_eq_true_eq] at h ⊢
  refine ⟨⟨⟨⟨h.1.1.1.1, h.1.1.1.2⟩, h.1.1.2⟩, ?_⟩, ?_⟩
  · show cells + Mc.2.2.2.2.cells ≤ 601024
    omega
  · show slots + Mc.2.2.2.2.slots ≤ 7293034
    omega
end LAWR
set_option maxRecDepth 100000 in
set_option maxHeartbeats 4000000 in
theorem lc_0 {l : Launch} {ad : Nat → Nat} {G : JG} {X : List (Nat × Nat × (Int → Int))} {Z : JZ} {cells slots len : Nat} {scr : Int → Int} {i : Int} {w : AW} {D Di : Int → Int → Int} {n mi hi ni mj : Int} {sh E : Int → Int → Int} (hl9 : l.stackTraces = false) (hX : (1001, len, scr) ∈ X) (hlen : len ≤ 3072) (hi9 : 0 ≤ i ∧ i + 6 ≤ len) (hsc : ∀ j, inI (scr j)) (hcs : cells + 1 ≤ 601024 ∧ slots + 6 ≤ 7293034) (hW : LW w D n mi hi Di ni mj sh E) (hI : Inv D n mi hi Di ni mj sh E) (kont : ∀ (D Di : Int → Int → Int) (n mi hi ni mj : Int) (sh E : Int → Int → Int) (w : AW), LW w D n mi hi Di ni mj sh E → Inv D n mi hi Di ni mj sh E → J l m_Law_law ad G X false Z 68 (cells + 1) (slots + 6) 1708 [some (aR 1001), some (aR 0), some (aR 53), some (aR 67), some (aI i), none, none, none] [] w) : J l m_Law_law ad G X false Z 68 cells slots 228 [some (aR 1001), some (aR 0), some (aR 53), some (aR 67), some (aI i), none, none, none] [] w := by
  have hB := hI.1
  obtain ⟨hC, hM, f0, hf⟩ := hW
  have hO := hC.1
  refine j_aload_n (pc' := 229) (z := 0) dL_law_228 rfl rfl ?_
  refine j_aload_n (pc' := 230) (z := 1001) dL_law_229 rfl rfl ?_
  refine j_iload (pc' := 232) (z := i) dL_law_230 rfl rfl ?_
  refine j_iconst (pc' := 233) dL_law_232 rfl ?_
  refine j_iadd (pc' := 234) dL_law_233 rfl ?_
  refine j_xld (pc' := 235) (f := scr) (n := len) dL_law_234 rfl hX (by omega) (by omega) ?_
  refine j_callV (pc' := 238) (q := 0) (as := [aI (scr (i + 1))]) (rest := []) dL_law_235 rfl s_Law_21 (c_Top_road hC hI.1 hI.2.1 hI.2.2.1 hI.2.2.2.1 hI.2.2.2.2.1 (hsc _)) (by omega) hO rfl rfl rfl (rmL hcs rfl) (fun r1 w1 h1 => ?_)
  obtain ⟨rfl, hT1⟩ := h1
  have hM1 := hM.congr (w' := w1) (fun j a b => hT1.2 j a)
  obtain ⟨⟨pc9, ra9, re9, fm9, se9, th9, h53⟩, -⟩ := id hM1
  refine j_aload_n (pc' := 239) (z := 53) dL_law_238 rfl rfl ?_
  refine j_aload_n (pc' := 240) (z := 1001) dL_law_239 rfl rfl ?_
  refine j_iload (pc' := 242) (z := i) dL_law_240 rfl rfl ?_
  refine j_iconst (pc' := 243) dL_law_242 rfl ?_
  refine j_iadd (pc' := 244) dL_law_243 rfl ?_
  refine j_xld (pc' := 245) (f := scr) (n := len) dL_law_244 rfl hX (by omega) (by omega) ?_
  refine j_callV (pc' := 248) (q := 53) (as := [aI (scr (i + 1))]) (rest := [aI _]) dL_law_245 rfl s_Law_25 (c_Mod_road hM1 hI.1 hI.2.1 hI.2.2.1 hI.2.2.2.1 hI.2.2.2.2.1 hI.2.2.2.2.2.2 (hsc _)) (by omega) h53 rfl rfl rfl (rmL hcs rfl) (fun r2 w2 h2 => ?_)
  obtain ⟨rfl, hT2⟩ := h2
  refine j_icmpE (tgt := 1708) dL_law_248 (by decide) ?_
  refine j_wide (k9 := cells + 1) (n9 := slots + 6) (Nat.le_succ _) (Nat.le_add_right _ _) ?_
  exact kont _ _ _ _ _ _ _ _ _ _ ⟨hT1.1.congr (fun j a => hT2.2 j (Or.inl a)), hT2.1, f0, by rw [hT2.2 67 (Or.inr (by omega)), hT1.2 67 (by omega)]; exact hf⟩ (hI.car (roadX_ok hI.1 hI.2.2.2.2.1).1 (roadX_ok hI.1 hI.2.2.2.2.1).2)
set_option maxRecDepth 100000 in
set_option maxHeartbeats 4000000 in
theorem lc_1 {l : Launch} {ad : Nat → Nat} {G : JG} {X : List (Nat × Nat × (Int → Int))} {Z : JZ} {cells slots len : Nat} {scr : Int → Int} {i : Int} {w : AW} {D Di : Int → Int → Int} {n mi hi ni mj : Int} {sh E : Int → Int → Int} (hl9 : l.stackTraces = false) (hX : (1001, len, scr) ∈ X) (hlen : len ≤ 3072) (hi9 : 0 ≤ i ∧ i + 6 ≤ len) (hsc : ∀ j, inI (scr j)) (hcs : cells + 1 ≤ 601024 ∧ slots + 6 ≤ 7293034) (hW : LW w D n mi hi Di ni mj sh E) (hI : Inv D n mi hi Di ni mj sh E) (kont : ∀ (D Di : Int → Int → Int) (n mi hi ni mj : Int) (sh E : Int → Int → Int) (w : AW), LW w D n mi hi Di ni mj sh E → Inv D n mi hi Di ni mj sh E → J l m_Law_law ad G X false Z 68 (cells + 1) (slots + 6) 1708 [some (aR 1001), some (aR 0), some (aR 53), some (aR 67), some (aI i), none, none, none] [] w) : J l m_Law_law ad G X false Z 68 cells slots 253 [some (aR 1001), some (aR 0), some (aR 53), some (aR 67), some (aI i), none, none, none] [] w := by
  have hB := hI.1
  obtain ⟨hC, hM, f0, hf⟩ := hW
  have hO := hC.1
  refine j_aload_n (pc' := 254) (z := 0) dL_law_253 rfl rfl ?_
  refine j_aload_n (pc' := 255) (z := 1001) dL_law_254 rfl rfl ?_
  refine j_iload (pc' := 257) (z := i) dL_law_255 rfl rfl ?_
  refine j_iconst (pc' := 258) dL_law_257 rfl ?_
  refine j_iadd (pc' := 259) dL_law_258 rfl ?_
  refine j_xld (pc' := 260) (f := scr) (n := len) dL_law_259 rfl hX (by omega) (by omega) ?_
  refine j_aload_n (pc' := 261) (z := 1001) dL_law_260 rfl rfl ?_
  refine j_iload (pc' := 263) (z := i) dL_law_261 rfl rfl ?_
  refine j_iconst (pc' := 264) dL_law_263 rfl ?_
  refine j_iadd (pc' := 265) dL_law_264 rfl ?_
  refine j_xld (pc' := 266) (f := scr) (n := len) dL_law_265 rfl hX (by omega) (by omega) ?_
  refine j_callV (pc' := 269) (q := 0) (as := [aI (scr (i + 1)), aI (scr (i + 2))]) (rest := []) dL_law_266 rfl s_Law_26 (c_Top_part hC hI.1 hI.2.1 hI.2.2.1 hI.2.2.2.1 (hsc _) (hsc _)) (by omega) hO rfl rfl rfl (rmL hcs rfl) (fun r1 w1 h1 => ?_)
  obtain ⟨rfl, hT1⟩ := h1
  have hM1 := hM.congr (w' := w1) (fun j a b => hT1.2 j a)
  obtain ⟨⟨pc9, ra9, re9, fm9, se9, th9, h53⟩, -⟩ := id hM1
  refine j_aload_n (pc' := 270) (z := 53) dL_law_269 rfl rfl ?_
  refine j_aload_n (pc' := 271) (z := 1001) dL_law_270 rfl rfl ?_
  refine j_iload (pc' := 273) (z := i) dL_law_271 rfl rfl ?_
  refine j_iconst (pc' := 274) dL_law_273 rfl ?_
  refine j_iadd (pc' := 275) dL_law_274 rfl ?_
  refine j_xld (pc' := 276) (f := scr) (n := len) dL_law_275 rfl hX (by omega) (by omega) ?_
  refine j_aload_n (pc' := 277) (z := 1001) dL_law_276 rfl rfl ?_
  refine j_iload (pc' := 279) (z := i) dL_law_277 rfl rfl ?_
  refine j_iconst (pc' := 280) dL_law_279 rfl ?_
  refine j_iadd (pc' := 281) dL_law_280 rfl ?_
  refine j_xld (pc' := 282) (f := scr) (n := len) dL_law_281 rfl hX (by omega) (by omega) ?_
  refine j_callV (pc' := 285) (q := 53) (as := [aI (scr (i + 1)), aI (scr (i + 2))]) (rest := [aI _]) dL_law_282 rfl s_Law_30 (c_Mod_part hM1 hI.1 hI.2.1 hI.2.2.1 hI.2.2.2.1 hI.2.2.2.2.1 (hsc _) (hsc _)) (by omega) h53 rfl rfl rfl (rmL hcs rfl) (fun r2 w2 h2 => ?_)
  obtain ⟨rfl, hT2⟩ := h2
  refine j_icmpE (tgt := 1708) dL_law_285 (by decide) ?_
  refine j_wide (k9 := cells + 1) (n9 := slots + 6) (Nat.le_succ _) (Nat.le_add_right _ _) ?_
  exact kont _ _ _ _ _ _ _ _ _ _ ⟨hT1.1.congr (fun j a => hT2.2 j (Or.inl a)), hT2.1, f0, by rw [hT2.2 67 (Or.inr (by omega)), hT1.2 67 (by omega)]; exact hf⟩ hI
set_option maxRecDepth 100000 in
set_option maxHeartbeats 4000000 in
theorem lc_2 {l : Launch} {ad : Nat → Nat} {G : JG} {X : List (Nat × Nat × (Int → Int))} {Z : JZ} {cells slots len : Nat} {scr : Int → Int} {i : Int} {w : AW} {D Di : Int → Int → Int} {n mi hi ni mj : Int} {sh E : Int → Int → Int} (hl9 : l.stackTraces = false) (hX : (1001, len, scr) ∈ X) (hlen : len ≤ 3072) (hi9 : 0 ≤ i ∧ i + 6 ≤ len) (hsc : ∀ j, inI (scr j)) (hcs : cells + 1 ≤ 601024 ∧ slots + 6 ≤ 7293034) (hW : LW w D n mi hi Di ni mj sh E) (hI : Inv D n mi hi Di ni mj sh E) (kont : ∀ (D Di : Int → Int → Int) (n mi hi ni mj : Int) (sh E : Int → Int → Int) (w : AW), LW w D n mi hi Di ni mj sh E → Inv D n mi hi Di ni mj sh E → J l m_Law_law ad G X false Z 68 (cells + 1) (slots + 6) 1708 [some (aR 1001), some (aR 0), some (aR 53), some (aR 67), some (aI i), none, none, none] [] w) : J l m_Law_law ad G X false Z 68 cells slots 290 [some (aR 1001), some (aR 0), some (aR 53), some (aR 67), some (aI i), none, none, none] [] w := by
  have hB := hI.1
  obtain ⟨hC, hM, f0, hf⟩ := hW
  have hO := hC.1
  refine j_aload_n (pc' := 291) (z := 0) dL_law_290 rfl rfl ?_
  refine j_aload_n (pc' := 292) (z := 1001) dL_law_291 rfl rfl ?_
  refine j_iload (pc' := 294) (z := i) dL_law_292 rfl rfl ?_
  refine j_iconst (pc' := 295) dL_law_294 rfl ?_
  refine j_iadd (pc' := 296) dL_law_295 rfl ?_
  refine j_xld (pc' := 297) (f := scr) (n := len) dL_law_296 rfl hX (by omega) (by omega) ?_
  refine j_aload_n (pc' := 298) (z := 1001) dL_law_297 rfl rfl ?_
  refine j_iload (pc' := 300) (z := i) dL_law_298 rfl rfl ?_
  refine j_iconst (pc' := 301) dL_law_300 rfl ?_
  refine j_iadd (pc' := 302) dL_law_301 rfl ?_
  refine j_xld (pc' := 303) (f := scr) (n := len) dL_law_302 rfl hX (by omega) (by omega) ?_
  refine j_aload_n (pc' := 304) (z := 1001) dL_law_303 rfl rfl ?_
  refine j_iload (pc' := 306) (z := i) dL_law_304 rfl rfl ?_
  refine j_iconst (pc' := 307) dL_law_306 rfl ?_
  refine j_iadd (pc' := 308) dL_law_307 rfl ?_
  refine j_xld (pc' := 309) (f := scr) (n := len) dL_law_308 rfl hX (by omega) (by omega) ?_
  refine j_callV (pc' := 312) (q := 0) (as := [aI (scr (i + 1)), aI (scr (i + 2)), aI (scr (i + 3))]) (rest := []) dL_law_309 rfl s_Law_31 (c_Top_adds hC hI.1 hI.2.1 hI.2.2.1 hI.2.2.2.1 (hsc _) (hsc _) (hsc _)) (by omega) hO rfl rfl rfl (rmL hcs rfl) (fun r1 w1 h1 => ?_)
  obtain ⟨rfl, hT1⟩ := h1
  have hM1 := hM.congr (w' := w1) (fun j a b => hT1.2 j a)
  obtain ⟨⟨pc9, ra9, re9, fm9, se9, th9, h53⟩, -⟩ := id hM1
  refine j_aload_n (pc' := 313) (z := 53) dL_law_312 rfl rfl ?_
  refine j_aload_n (pc' := 314) (z := 1001) dL_law_313 rfl rfl ?_
  refine j_iload (pc' := 316) (z := i) dL_law_314 rfl rfl ?_
  refine j_iconst (pc' := 317) dL_law_316 rfl ?_
  refine j_iadd (pc' := 318) dL_law_317 rfl ?_
  refine j_xld (pc' := 319) (f := scr) (n := len) dL_law_318 rfl hX (by omega) (by omega) ?_
  refine j_aload_n (pc' := 320) (z := 1001) dL_law_319 rfl rfl ?_
  refine j_iload (pc' := 322) (z := i) dL_law_320 rfl rfl ?_
  refine j_iconst (pc' := 323) dL_law_322 rfl ?_
  refine j_iadd (pc' := 324) dL_law_323 rfl ?_
  refine j_xld (pc' := 325) (f := scr) (n := len) dL_law_324 rfl hX (by omega) (by omega) ?_
  refine j_aload_n (pc' := 326) (z := 1001) dL_law_325 rfl rfl ?_
  refine j_iload (pc' := 328) (z := i) dL_law_326 rfl rfl ?_
  refine j_iconst (pc' := 329) dL_law_328 rfl ?_
  refine j_iadd (pc' := 330) dL_law_329 rfl ?_
  refine j_xld (pc' := 331) (f := scr) (n := len) dL_law_330 rfl hX (by omega) (by omega) ?_
  refine j_callV (pc' := 334) (q := 53) (as := [aI (scr (i + 1)), aI (scr (i + 2)), aI (scr (i + 3))]) (rest := [aI _]) dL_law_331 rfl s_Law_35 (c_Mod_adds hM1 hI.1 hI.2.1 hI.2.2.1 hI.2.2.2.1 hI.2.2.2.2.1 (hsc _) (hsc _) (hsc _)) (by omega) h53 rfl rfl rfl (rmL hcs rfl) (fun r2 w2 h2 => ?_)
  obtain ⟨rfl, hT2⟩ := h2
  refine j_icmpE (tgt := 1708) dL_law_334 (by decide) ?_
  refine j_wide (k9 := cells + 1) (n9 := slots + 6) (Nat.le_succ _) (Nat.le_add_right _ _) ?_
  exact kont _ _ _ _ _ _ _ _ _ _ ⟨hT1.1.congr (fun j a => hT2.2 j (Or.inl a)), hT2.1, f0, by rw [hT2.2 67 (Or.inr (by omega)), hT1.2 67 (by omega)]; exact hf⟩ (hI.car hI.1.adds hI.2.2.2.2.1.adds)
set_option maxRecDepth 100000 in
set_option maxHeartbeats 4000000 in
theorem lc_3 {l : Launch} {ad : Nat → Nat} {G : JG} {X : List (Nat × Nat × (Int → Int))} {Z : JZ} {cells slots len : Nat} {scr : Int → Int} {i : Int} {w : AW} {D Di : Int → Int → Int} {n mi hi ni mj : Int} {sh E : Int → Int → Int} (hl9 : l.stackTraces = false) (hX : (1001, len, scr) ∈ X) (hlen : len ≤ 3072) (hi9 : 0 ≤ i ∧ i + 6 ≤ len) (hsc : ∀ j, inI (scr j)) (hcs : cells + 1 ≤ 601024 ∧ slots + 6 ≤ 7293034) (hW : LW w D n mi hi Di ni mj sh E) (hI : Inv D n mi hi Di ni mj sh E) (kont : ∀ (D Di : Int → Int → Int) (n mi hi ni mj : Int) (sh E : Int → Int → Int) (w : AW), LW w D n mi hi Di ni mj sh E → Inv D n mi hi Di ni mj sh E → J l m_Law_law ad G X false Z 68 (cells + 1) (slots + 6) 1708 [some (aR 1001), some (aR 0), some (aR 53), some (aR 67), some (aI i), none, none, none] [] w) : J l m_Law_law ad G X false Z 68 cells slots 339 [some (aR 1001), some (aR 0), some (aR 53), some (aR 67), some (aI i), none, none, none] [] w := by
  have hB := hI.1
  obtain ⟨hC, hM, f0, hf⟩ := hW
  have hO := hC.1
  refine j_aload_n (pc' := 340) (z := 0) dL_law_339 rfl rfl ?_
  refine j_aload_n (pc' := 341) (z := 1001) dL_law_340 rfl rfl ?_
  refine j_iload (pc' := 343) (z := i) dL_law_341 rfl rfl ?_
  refine j_iconst (pc' := 344) dL_law_343 rfl ?_
  refine j_iadd (pc' := 345) dL_law_344 rfl ?_
  refine j_xld (pc' := 346) (f := scr) (n := len) dL_law_345 rfl hX (by omega) (by omega) ?_
  refine j_callV (pc' := 349) (q := 0) (as := [aI (scr (i + 1))]) (rest := []) dL_law_346 rfl s_Law_36 (c_Top_holds hC hI.1 hI.2.1 hI.2.2.1 hI.2.2.2.1 (hsc _)) (by omega) hO rfl rfl rfl (rmL hcs rfl) (fun r1 w1 h1 => ?_)
  obtain ⟨rfl, hT1⟩ := h1
  have hM1 := hM.congr (w' := w1) (fun j a b => hT1.2 j a)
  obtain ⟨⟨pc9, ra9, re9, fm9, se9, th9, h53⟩, -⟩ := id hM1
  refine j_aload_n (pc' := 350) (z := 53) dL_law_349 rfl rfl ?_
  refine j_aload_n (pc' := 351) (z := 1001) dL_law_350 rfl rfl ?_
  refine j_iload (pc' := 353) (z := i) dL_law_351 rfl rfl ?_
  refine j_iconst (pc' := 354) dL_law_353 rfl ?_
  refine j_iadd (pc' := 355) dL_law_354 rfl ?_
  refine j_xld (pc' := 356) (f := scr) (n := len) dL_law_355 rfl hX (by omega) (by omega) ?_
  refine j_callV (pc' := 359) (q := 53) (as := [aI (scr (i + 1))]) (rest := [aI _]) dL_law_356 rfl s_Law_39 (c_Mod_holds hM1 hI.1 hI.2.1 hI.2.2.1 hI.2.2.2.1 hI.2.2.2.2.1 (hsc _)) (by omega) h53 rfl rfl rfl (rmL hcs rfl) (fun r2 w2 h2 => ?_)
  obtain ⟨rfl, hT2⟩ := h2
  refine j_icmpE (tgt := 1708) dL_law_359 (by decide) ?_
  refine j_wide (k9 := cells + 1) (n9 := slots + 6) (Nat.le_succ _) (Nat.le_add_right _ _) ?_
  exact kont _ _ _ _ _ _ _ _ _ _ ⟨hT1.1.congr (fun j a => hT2.2 j (Or.inl a)), hT2.1, f0, by rw [hT2.2 67 (Or.inr (by omega)), hT1.2 67 (by omega)]; exact hf⟩ (hI.car hI.1.hold hI.2.2.2.2.1.hold)
set_option maxRecDepth 100000 in
set_option maxHeartbeats 4000000 in
theorem lc_4 {l : Launch} {ad : Nat → Nat} {G : JG} {X : List (Nat × Nat × (Int → Int))} {Z : JZ} {cells slots len : Nat} {scr : Int → Int} {i : Int} {w : AW} {D Di : Int → Int → Int} {n mi hi ni mj : Int} {sh E : Int → Int → Int} (hl9 : l.stackTraces = false) (hX : (1001, len, scr) ∈ X) (hlen : len ≤ 3072) (hi9 : 0 ≤ i ∧ i + 6 ≤ len) (hsc : ∀ j, inI (scr j)) (hcs : cells + 1 ≤ 601024 ∧ slots + 6 ≤ 7293034) (hW : LW w D n mi hi Di ni mj sh E) (hI : Inv D n mi hi Di ni mj sh E) (kont : ∀ (D Di : Int → Int → Int) (n mi hi ni mj : Int) (sh E : Int → Int → Int) (w : AW), LW w D n mi hi Di ni mj sh E → Inv D n mi hi Di ni mj sh E → J l m_Law_law ad G X false Z 68 (cells + 1) (slots + 6) 1708 [some (aR 1001), some (aR 0), some (aR 53), some (aR 67), some (aI i), none, none, none] [] w) : J l m_Law_law ad G X false Z 68 cells slots 364 [some (aR 1001), some (aR 0), some (aR 53), some (aR 67), some (aI i), none, none, none] [] w := by
  have hB := hI.1
  obtain ⟨hC, hM, f0, hf⟩ := hW
  have hO := hC.1
  refine j_aload_n (pc' := 365) (z := 0) dL_law_364 rfl rfl ?_
  refine j_aload_n (pc' := 366) (z := 1001) dL_law_365 rfl rfl ?_
  refine j_iload (pc' := 368) (z := i) dL_law_366 rfl rfl ?_
  refine j_iconst (pc' := 369) dL_law_368 rfl ?_
  refine j_iadd (pc' := 370) dL_law_369 rfl ?_
  refine j_xld (pc' := 371) (f := scr) (n := len) dL_law_370 rfl hX (by omega) (by omega) ?_
  refine j_callV (pc' := 374) (q := 0) (as := [aI (scr (i + 1))]) (rest := []) dL_law_371 rfl s_Law_40 (c_Top_wedges hC hI.1 hI.2.1 hI.2.2.1 hI.2.2.2.1 (hsc _)) (by omega) hO rfl rfl rfl (rmL hcs rfl) (fun r1 w1 h1 => ?_)
  obtain ⟨rfl, hT1⟩ := h1
  have hM1 := hM.congr (w' := w1) (fun j a b => hT1.2 j a)
  obtain ⟨⟨pc9, ra9, re9, fm9, se9, th9, h53⟩, -⟩ := id hM1
  refine j_aload_n (pc' := 375) (z := 53) dL_law_374 rfl rfl ?_
  refine j_aload_n (pc' := 376) (z := 1001) dL_law_375 rfl rfl ?_
  refine j_iload (pc' := 378) (z := i) dL_law_376 rfl rfl ?_
  refine j_iconst (pc' := 379) dL_law_378 rfl ?_
  refine j_iadd (pc' := 380) dL_law_379 rfl ?_
  refine j_xld (pc' := 381) (f := scr) (n := len) dL_law_380 rfl hX (by omega) (by omega) ?_
  refine j_callV (pc' := 384) (q := 53) (as := [aI (scr (i + 1))]) (rest := [aI _]) dL_law_381 rfl s_Law_43 (c_Mod_wedges hM1 hI.1 hI.2.1 hI.2.2.1 hI.2.2.2.1 hI.2.2.2.2.1 (hsc _)) (by omega) h53 rfl rfl rfl (rmL hcs rfl) (fun r2 w2 h2 => ?_)
  obtain ⟨rfl, hT2⟩ := h2
  refine j_icmpE (tgt := 1708) dL_law_384 (by decide) ?_
  refine j_wide (k9 := cells + 1) (n9 := slots + 6) (Nat.le_succ _) (Nat.le_add_right _ _) ?_
  exact kont _ _ _ _ _ _ _ _ _ _ ⟨hT1.1.congr (fun j a => hT2.2 j (Or.inl a)), hT2.1, f0, by rw [hT2.2 67 (Or.inr (by omega)), hT1.2 67 (by omega)]; exact hf⟩ (hI.car hI.1.wed hI.2.2.2.2.1.wed)
set_option maxRecDepth 100000 in
set_option maxHeartbeats 4000000 in
theorem lc_5 {l : Launch} {ad : Nat → Nat} {G : JG} {X : List (Nat × Nat × (Int → Int))} {Z : JZ} {cells slots len : Nat} {scr : Int → Int} {i : Int} {w : AW} {D Di : Int → Int → Int} {n mi hi ni mj : Int} {sh E : Int → Int → Int} (hl9 : l.stackTraces = false) (hX : (1001, len, scr) ∈ X) (hlen : len ≤ 3072) (hi9 : 0 ≤ i ∧ i + 6 ≤ len) (hsc : ∀ j, inI (scr j)) (hcs : cells + 1 ≤ 601024 ∧ slots + 6 ≤ 7293034) (hW : LW w D n mi hi Di ni mj sh E) (hI : Inv D n mi hi Di ni mj sh E) (kont : ∀ (D Di : Int → Int → Int) (n mi hi ni mj : Int) (sh E : Int → Int → Int) (w : AW), LW w D n mi hi Di ni mj sh E → Inv D n mi hi Di ni mj sh E → J l m_Law_law ad G X false Z 68 (cells + 1) (slots + 6) 1708 [some (aR 1001), some (aR 0), some (aR 53), some (aR 67), some (aI i), none, none, none] [] w) : J l m_Law_law ad G X false Z 68 cells slots 389 [some (aR 1001), some (aR 0), some (aR 53), some (aR 67), some (aI i), none, none, none] [] w := by
  have hB := hI.1
  obtain ⟨hC, hM, f0, hf⟩ := hW
  have hO := hC.1
  refine j_aload_n (pc' := 390) (z := 0) dL_law_389 rfl rfl ?_
  refine j_aload_n (pc' := 391) (z := 1001) dL_law_390 rfl rfl ?_
  refine j_iload (pc' := 393) (z := i) dL_law_391 rfl rfl ?_
  refine j_iconst (pc' := 394) dL_law_393 rfl ?_
  refine j_iadd (pc' := 395) dL_law_394 rfl ?_
  refine j_xld (pc' := 396) (f := scr) (n := len) dL_law_395 rfl hX (by omega) (by omega) ?_
  refine j_callV (pc' := 399) (q := 0) (as := [aI (scr (i + 1))]) (rest := []) dL_law_396 rfl s_Law_44 (c_Top_outs hC hI.1 hI.2.1 hI.2.2.1 hI.2.2.2.1 (hsc _)) (by omega) hO rfl rfl rfl (rmL hcs rfl) (fun r1 w1 h1 => ?_)
  obtain ⟨rfl, hT1⟩ := h1
  have hM1 := hM.congr (w' := w1) (fun j a b => hT1.2 j a)
  obtain ⟨⟨pc9, ra9, re9, fm9, se9, th9, h53⟩, -⟩ := id hM1
  refine j_aload_n (pc' := 400) (z := 53) dL_law_399 rfl rfl ?_
  refine j_aload_n (pc' := 401) (z := 1001) dL_law_400 rfl rfl ?_
  refine j_iload (pc' := 403) (z := i) dL_law_401 rfl rfl ?_
  refine j_iconst (pc' := 404) dL_law_403 rfl ?_
  refine j_iadd (pc' := 405) dL_law_404 rfl ?_
  refine j_xld (pc' := 406) (f := scr) (n := len) dL_law_405 rfl hX (by omega) (by omega) ?_
  refine j_callV (pc' := 409) (q := 53) (as := [aI (scr (i + 1))]) (rest := [aI _]) dL_law_406 rfl s_Law_47 (c_Mod_outs hM1 hI.1 hI.2.1 hI.2.2.1 hI.2.2.2.1 hI.2.2.2.2.1 (hsc _)) (by omega) h53 rfl rfl rfl (rmL hcs rfl) (fun r2 w2 h2 => ?_)
  obtain ⟨rfl, hT2⟩ := h2
  refine j_icmpE (tgt := 1708) dL_law_409 (by decide) ?_
  refine j_wide (k9 := cells + 1) (n9 := slots + 6) (Nat.le_succ _) (Nat.le_add_right _ _) ?_
  exact kont _ _ _ _ _ _ _ _ _ _ ⟨hT1.1.congr (fun j a => hT2.2 j (Or.inl a)), hT2.1, f0, by rw [hT2.2 67 (Or.inr (by omega)), hT1.2 67 (by omega)]; exact hf⟩ (hI.car hI.1.out hI.2.2.2.2.1.out)
set_option maxRecDepth 100000 in
set_option maxHeartbeats 4000000 in
theorem lc_6 {l : Launch} {ad : Nat → Nat} {G : JG} {X : List (Nat × Nat × (Int → Int))} {Z : JZ} {cells slots len : Nat} {scr : Int → Int} {i : Int} {w : AW} {D Di : Int → Int → Int} {n mi hi ni mj : Int} {sh E : Int → Int → Int} (hl9 : l.stackTraces = false) (hX : (1001, len, scr) ∈ X) (hlen : len ≤ 3072) (hi9 : 0 ≤ i ∧ i + 6 ≤ len) (hsc : ∀ j, inI (scr j)) (hcs : cells + 1 ≤ 601024 ∧ slots + 6 ≤ 7293034) (hW : LW w D n mi hi Di ni mj sh E) (hI : Inv D n mi hi Di ni mj sh E) (kont : ∀ (D Di : Int → Int → Int) (n mi hi ni mj : Int) (sh E : Int → Int → Int) (w : AW), LW w D n mi hi Di ni mj sh E → Inv D n mi hi Di ni mj sh E → J l m_Law_law ad G X false Z 68 (cells + 1) (slots + 6) 1708 [some (aR 1001), some (aR 0), some (aR 53), some (aR 67), some (aI i), none, none, none] [] w) : J l m_Law_law ad G X false Z 68 cells slots 414 [some (aR 1001), some (aR 0), some (aR 53), some (aR 67), some (aI i), none, none, none] [] w := by
  have hB := hI.1
  obtain ⟨hC, hM, f0, hf⟩ := hW
  have hO := hC.1
  refine j_aload_n (pc' := 415) (z := 0) dL_law_414 rfl rfl ?_
  refine j_aload_n (pc' := 416) (z := 1001) dL_law_415 rfl rfl ?_
  refine j_iload (pc' := 418) (z := i) dL_law_416 rfl rfl ?_
  refine j_iconst (pc' := 419) dL_law_418 rfl ?_
  refine j_iadd (pc' := 420) dL_law_419 rfl ?_
  refine j_xld (pc' := 421) (f := scr) (n := len) dL_law_420 rfl hX (by omega) (by omega) ?_
  refine j_callV (pc' := 424) (q := 0) (as := [aI (scr (i + 1))]) (rest := []) dL_law_421 rfl s_Law_48 (c_Top_screws hC hI.1 hI.2.1 hI.2.2.1 hI.2.2.2.1 (hsc _)) (by omega) hO rfl rfl rfl (rmL hcs rfl) (fun r1 w1 h1 => ?_)
  obtain ⟨rfl, hT1⟩ := h1
  have hM1 := hM.congr (w' := w1) (fun j a b => hT1.2 j a)
  obtain ⟨⟨pc9, ra9, re9, fm9, se9, th9, h53⟩, -⟩ := id hM1
  refine j_aload_n (pc' := 425) (z := 53) dL_law_424 rfl rfl ?_
  refine j_aload_n (pc' := 426) (z := 1001) dL_law_425 rfl rfl ?_
  refine j_iload (pc' := 428) (z := i) dL_law_426 rfl rfl ?_
  refine j_iconst (pc' := 429) dL_law_428 rfl ?_
  refine j_iadd (pc' := 430) dL_law_429 rfl ?_
  refine j_xld (pc' := 431) (f := scr) (n := len) dL_law_430 rfl hX (by omega) (by omega) ?_
  refine j_callV (pc' := 434) (q := 53) (as := [aI (scr (i + 1))]) (rest := [aI _]) dL_law_431 rfl s_Law_51 (c_Mod_screws hM1 hI.1 hI.2.1 hI.2.2.1 hI.2.2.2.1 hI.2.2.2.2.1 (hsc _)) (by omega) h53 rfl rfl rfl (rmL hcs rfl) (fun r2 w2 h2 => ?_)
  obtain ⟨rfl, hT2⟩ := h2
  refine j_icmpE (tgt := 1708) dL_law_434 (by decide) ?_
  refine j_wide (k9 := cells + 1) (n9 := slots + 6) (Nat.le_succ _) (Nat.le_add_right _ _) ?_
  exact kont _ _ _ _ _ _ _ _ _ _ ⟨hT1.1.congr (fun j a => hT2.2 j (Or.inl a)), hT2.1, f0, by rw [hT2.2 67 (Or.inr (by omega)), hT1.2 67 (by omega)]; exact hf⟩ (hI.car hI.1.scw hI.2.2.2.2.1.scw)
set_option maxRecDepth 100000 in
set_option maxHeartbeats 4000000 in
theorem lc_7 {l : Launch} {ad : Nat → Nat} {G : JG} {X : List (Nat × Nat × (Int → Int))} {Z : JZ} {cells slots len : Nat} {scr : Int → Int} {i : Int} {w : AW} {D Di : Int → Int → Int} {n mi hi ni mj : Int} {sh E : Int → Int → Int} (hl9 : l.stackTraces = false) (hX : (1001, len, scr) ∈ X) (hlen : len ≤ 3072) (hi9 : 0 ≤ i ∧ i + 6 ≤ len) (hsc : ∀ j, inI (scr j)) (hcs : cells + 1 ≤ 601024 ∧ slots + 6 ≤ 7293034) (hW : LW w D n mi hi Di ni mj sh E) (hI : Inv D n mi hi Di ni mj sh E) (kont : ∀ (D Di : Int → Int → Int) (n mi hi ni mj : Int) (sh E : Int → Int → Int) (w : AW), LW w D n mi hi Di ni mj sh E → Inv D n mi hi Di ni mj sh E → J l m_Law_law ad G X false Z 68 (cells + 1) (slots + 6) 1708 [some (aR 1001), some (aR 0), some (aR 53), some (aR 67), some (aI i), none, none, none] [] w) : J l m_Law_law ad G X false Z 68 cells slots 439 [some (aR 1001), some (aR 0), some (aR 53), some (aR 67), some (aI i), none, none, none] [] w := by
  have hB := hI.1
  obtain ⟨hC, hM, f0, hf⟩ := hW
  have hO := hC.1
  refine j_aload_n (pc' := 440) (z := 0) dL_law_439 rfl rfl ?_
  refine j_aload_n (pc' := 441) (z := 1001) dL_law_440 rfl rfl ?_
  refine j_iload (pc' := 443) (z := i) dL_law_441 rfl rfl ?_
  refine j_iconst (pc' := 444) dL_law_443 rfl ?_
  refine j_iadd (pc' := 445) dL_law_444 rfl ?_
  refine j_xld (pc' := 446) (f := scr) (n := len) dL_law_445 rfl hX (by omega) (by omega) ?_
  refine j_aload_n (pc' := 447) (z := 1001) dL_law_446 rfl rfl ?_
  refine j_iload (pc' := 449) (z := i) dL_law_447 rfl rfl ?_
  refine j_iconst (pc' := 450) dL_law_449 rfl ?_
  refine j_iadd (pc' := 451) dL_law_450 rfl ?_
  refine j_xld (pc' := 452) (f := scr) (n := len) dL_law_451 rfl hX (by omega) (by omega) ?_
  refine j_callV (pc' := 455) (q := 0) (as := [aI (scr (i + 1)), aI (scr (i + 2))]) (rest := []) dL_law_452 rfl s_Law_52 (c_Top_set hC hI.1 hI.2.1 hI.2.2.1 hI.2.2.2.1 (hsc _) (hsc _)) (by omega) hO rfl rfl rfl (rmL hcs rfl) (fun r1 w1 h1 => ?_)
  obtain ⟨rfl, hT1⟩ := h1
  have hM1 := hM.congr (w' := w1) (fun j a b => hT1.2 j a)
  obtain ⟨⟨pc9, ra9, re9, fm9, se9, th9, h53⟩, -⟩ := id hM1
  refine j_aload_n (pc' := 456) (z := 53) dL_law_455 rfl rfl ?_
  refine j_aload_n (pc' := 457) (z := 1001) dL_law_456 rfl rfl ?_
  refine j_iload (pc' := 459) (z := i) dL_law_457 rfl rfl ?_
  refine j_iconst (pc' := 460) dL_law_459 rfl ?_
  refine j_iadd (pc' := 461) dL_law_460 rfl ?_
  refine j_xld (pc' := 462) (f := scr) (n := len) dL_law_461 rfl hX (by omega) (by omega) ?_
  refine j_aload_n (pc' := 463) (z := 1001) dL_law_462 rfl rfl ?_
  refine j_iload (pc' := 465) (z := i) dL_law_463 rfl rfl ?_
  refine j_iconst (pc' := 466) dL_law_465 rfl ?_
  refine j_iadd (pc' := 467) dL_law_466 rfl ?_
  refine j_xld (pc' := 468) (f := scr) (n := len) dL_law_467 rfl hX (by omega) (by omega) ?_
  refine j_callV (pc' := 471) (q := 53) (as := [aI (scr (i + 1)), aI (scr (i + 2))]) (rest := [aI _]) dL_law_468 rfl s_Law_55 (c_Mod_set hM1 hI.1 hI.2.1 hI.2.2.1 hI.2.2.2.1 hI.2.2.2.2.1 (hsc _) (hsc _)) (by omega) h53 rfl rfl rfl (rmL hcs rfl) (fun r2 w2 h2 => ?_)
  obtain ⟨rfl, hT2⟩ := h2
  refine j_icmpE (tgt := 1708) dL_law_471 (by decide) ?_
  refine j_wide (k9 := cells + 1) (n9 := slots + 6) (Nat.le_succ _) (Nat.le_add_right _ _) ?_
  exact kont _ _ _ _ _ _ _ _ _ _ ⟨hT1.1.congr (fun j a => hT2.2 j (Or.inl a)), hT2.1, f0, by rw [hT2.2 67 (Or.inr (by omega)), hT1.2 67 (by omega)]; exact hf⟩ (hI.car hI.1.chd hI.2.2.2.2.1.chd)
set_option maxRecDepth 100000 in
set_option maxHeartbeats 4000000 in
theorem lc_8 {l : Launch} {ad : Nat → Nat} {G : JG} {X : List (Nat × Nat × (Int → Int))} {Z : JZ} {cells slots len : Nat} {scr : Int → Int} {i : Int} {w : AW} {D Di : Int → Int → Int} {n mi hi ni mj : Int} {sh E : Int → Int → Int} (hl9 : l.stackTraces = false) (hX : (1001, len, scr) ∈ X) (hlen : len ≤ 3072) (hi9 : 0 ≤ i ∧ i + 6 ≤ len) (hsc : ∀ j, inI (scr j)) (hcs : cells + 1 ≤ 601024 ∧ slots + 6 ≤ 7293034) (hW : LW w D n mi hi Di ni mj sh E) (hI : Inv D n mi hi Di ni mj sh E) (kont : ∀ (D Di : Int → Int → Int) (n mi hi ni mj : Int) (sh E : Int → Int → Int) (w : AW), LW w D n mi hi Di ni mj sh E → Inv D n mi hi Di ni mj sh E → J l m_Law_law ad G X false Z 68 (cells + 1) (slots + 6) 1708 [some (aR 1001), some (aR 0), some (aR 53), some (aR 67), some (aI i), none, none, none] [] w) : J l m_Law_law ad G X false Z 68 cells slots 476 [some (aR 1001), some (aR 0), some (aR 53), some (aR 67), some (aI i), none, none, none] [] w := by
  have hB := hI.1
  obtain ⟨hC, hM, f0, hf⟩ := hW
  have hO := hC.1
  refine j_aload_n (pc' := 477) (z := 0) dL_law_476 rfl rfl ?_
  refine j_aload_n (pc' := 478) (z := 1001) dL_law_477 rfl rfl ?_
  refine j_iload (pc' := 480) (z := i) dL_law_478 rfl rfl ?_
  refine j_iconst (pc' := 481) dL_law_480 rfl ?_
  refine j_iadd (pc' := 482) dL_law_481 rfl ?_
  refine j_xld (pc' := 483) (f := scr) (n := len) dL_law_482 rfl hX (by omega) (by omega) ?_
  refine j_callV (pc' := 486) (q := 0) (as := [aI (scr (i + 1))]) (rest := []) dL_law_483 rfl s_Law_56 (c_Top_drives hC hI.1 hI.2.1 hI.2.2.1 hI.2.2.2.1 (hsc _)) (by omega) hO rfl rfl rfl (rmL hcs rfl) (fun r1 w1 h1 => ?_)
  obtain ⟨rfl, hT1⟩ := h1
  have hM1 := hM.congr (w' := w1) (fun j a b => hT1.2 j a)
  obtain ⟨⟨pc9, ra9, re9, fm9, se9, th9, h53⟩, -⟩ := id hM1
  refine j_aload_n (pc' := 487) (z := 53) dL_law_486 rfl rfl ?_
  refine j_aload_n (pc' := 488) (z := 1001) dL_law_487 rfl rfl ?_
  refine j_iload (pc' := 490) (z := i) dL_law_488 rfl rfl ?_
  refine j_iconst (pc' := 491) dL_law_490 rfl ?_
  refine j_iadd (pc' := 492) dL_law_491 rfl ?_
  refine j_xld (pc' := 493) (f := scr) (n := len) dL_law_492 rfl hX (by omega) (by omega) ?_
  refine j_callV (pc' := 496) (q := 53) (as := [aI (scr (i + 1))]) (rest := [aI _]) dL_law_493 rfl s_Law_59 (c_Mod_drives hM1 hI.1 hI.2.1 hI.2.2.1 hI.2.2.2.1 hI.2.2.2.2.1 (hsc _)) (by omega) h53 rfl rfl rfl (rmL hcs rfl) (fun r2 w2 h2 => ?_)
  obtain ⟨rfl, hT2⟩ := h2
  refine j_icmpE (tgt := 1708) dL_law_496 (by decide) ?_
  refine j_wide (k9 := cells + 1) (n9 := slots + 6) (Nat.le_succ _) (Nat.le_add_right _ _) ?_
  exact kont _ _ _ _ _ _ _ _ _ _ ⟨hT1.1.congr (fun j a => hT2.2 j (Or.inl a)), hT2.1, f0, by rw [hT2.2 67 (Or.inr (by omega)), hT1.2 67 (by omega)]; exact hf⟩ (hI.car (hI.1.dr hI.2.2.2.2.1) hI.2.2.2.2.1.dr)
set_option maxRecDepth 100000 in
set_option maxHeartbeats 4000000 in
theorem lc_9 {l : Launch} {ad : Nat → Nat} {G : JG} {X : List (Nat × Nat × (Int → Int))} {Z : JZ} {cells slots len : Nat} {scr : Int → Int} {i : Int} {w : AW} {D Di : Int → Int → Int} {n mi hi ni mj : Int} {sh E : Int → Int → Int} (hl9 : l.stackTraces = false) (hX : (1001, len, scr) ∈ X) (hlen : len ≤ 3072) (hi9 : 0 ≤ i ∧ i + 6 ≤ len) (hsc : ∀ j, inI (scr j)) (hcs : cells + 1 ≤ 601024 ∧ slots + 6 ≤ 7293034) (hW : LW w D n mi hi Di ni mj sh E) (hI : Inv D n mi hi Di ni mj sh E) (kont : ∀ (D Di : Int → Int → Int) (n mi hi ni mj : Int) (sh E : Int → Int → Int) (w : AW), LW w D n mi hi Di ni mj sh E → Inv D n mi hi Di ni mj sh E → J l m_Law_law ad G X false Z 68 (cells + 1) (slots + 6) 1708 [some (aR 1001), some (aR 0), some (aR 53), some (aR 67), some (aI i), none, none, none] [] w) : J l m_Law_law ad G X false Z 68 cells slots 501 [some (aR 1001), some (aR 0), some (aR 53), some (aR 67), some (aI i), none, none, none] [] w := by
  have hB := hI.1
  obtain ⟨hC, hM, f0, hf⟩ := hW
  have hO := hC.1
  refine j_aload_n (pc' := 502) (z := 0) dL_law_501 rfl rfl ?_
  refine j_aload_n (pc' := 503) (z := 1001) dL_law_502 rfl rfl ?_
  refine j_iload (pc' := 505) (z := i) dL_law_503 rfl rfl ?_
  refine j_iconst (pc' := 506) dL_law_505 rfl ?_
  refine j_iadd (pc' := 507) dL_law_506 rfl ?_
  refine j_xld (pc' := 508) (f := scr) (n := len) dL_law_507 rfl hX (by omega) (by omega) ?_
  refine j_aload_n (pc' := 509) (z := 1001) dL_law_508 rfl rfl ?_
  refine j_iload (pc' := 511) (z := i) dL_law_509 rfl rfl ?_
  refine j_iconst (pc' := 512) dL_law_511 rfl ?_
  refine j_iadd (pc' := 513) dL_law_512 rfl ?_
  refine j_xld (pc' := 514) (f := scr) (n := len) dL_law_513 rfl hX (by omega) (by omega) ?_
  refine j_callV (pc' := 517) (q := 0) (as := [aI (scr (i + 1)), aI (scr (i + 2))]) (rest := []) dL_law_514 rfl s_Law_60 (c_Top_heard hC hI.1 hI.2.1 hI.2.2.1 hI.2.2.2.1 (hsc _) (hsc _)) (by omega) hO rfl rfl rfl (rmL hcs rfl) (fun r1 w1 h1 => ?_)
  obtain ⟨rfl, hT1⟩ := h1
  have hM1 := hM.congr (w' := w1) (fun j a b => hT1.2 j a)
  obtain ⟨⟨pc9, ra9, re9, fm9, se9, th9, h53⟩, -⟩ := id hM1
  refine j_aload_n (pc' := 518) (z := 53) dL_law_517 rfl rfl ?_
  refine j_aload_n (pc' := 519) (z := 1001) dL_law_518 rfl rfl ?_
  refine j_iload (pc' := 521) (z := i) dL_law_519 rfl rfl ?_
  refine j_iconst (pc' := 522) dL_law_521 rfl ?_
  refine j_iadd (pc' := 523) dL_law_522 rfl ?_
  refine j_xld (pc' := 524) (f := scr) (n := len) dL_law_523 rfl hX (by omega) (by omega) ?_
  refine j_aload_n (pc' := 525) (z := 1001) dL_law_524 rfl rfl ?_
  refine j_iload (pc' := 527) (z := i) dL_law_525 rfl rfl ?_
  refine j_iconst (pc' := 528) dL_law_527 rfl ?_
  refine j_iadd (pc' := 529) dL_law_528 rfl ?_
  refine j_xld (pc' := 530) (f := scr) (n := len) dL_law_529 rfl hX (by omega) (by omega) ?_
  refine j_callV (pc' := 533) (q := 53) (as := [aI (scr (i + 1)), aI (scr (i + 2))]) (rest := [aI _]) dL_law_530 rfl s_Law_63 (c_Mod_heard hM1 hI.1 hI.2.1 hI.2.2.1 hI.2.2.2.1 hI.2.2.2.2.1 (hsc _) (hsc _)) (by omega) h53 rfl rfl rfl (rmL hcs rfl) (fun r2 w2 h2 => ?_)
  obtain ⟨rfl, hT2⟩ := h2
  refine j_icmpE (tgt := 1708) dL_law_533 (by decide) ?_
  refine j_wide (k9 := cells + 1) (n9 := slots + 6) (Nat.le_succ _) (Nat.le_add_right _ _) ?_
  exact kont _ _ _ _ _ _ _ _ _ _ ⟨hT1.1.congr (fun j a => hT2.2 j (Or.inl a)), hT2.1, f0, by rw [hT2.2 67 (Or.inr (by omega)), hT1.2 67 (by omega)]; exact hf⟩ hI
set_option maxRecDepth 100000 in
set_option maxHeartbeats 4000000 in
theorem lc_10 {l : Launch} {ad : Nat → Nat} {G : JG} {X : List (Nat × Nat × (Int → Int))} {Z : JZ} {cells slots len : Nat} {scr : Int → Int} {i : Int} {w : AW} {D Di : Int → Int → Int} {n mi hi ni mj : Int} {sh E : Int → Int → Int} (hl9 : l.stackTraces = false) (hX : (1001, len, scr) ∈ X) (hlen : len ≤ 3072) (hi9 : 0 ≤ i ∧ i + 6 ≤ len) (hsc : ∀ j, inI (scr j)) (hcs : cells + 1 ≤ 601024 ∧ slots + 6 ≤ 7293034) (hW : LW w D n mi hi Di ni mj sh E) (hI : Inv D n mi hi Di ni mj sh E) (kont : ∀ (D Di : Int → Int → Int) (n mi hi ni mj : Int) (sh E : Int → Int → Int) (w : AW), LW w D n mi hi Di ni mj sh E → Inv D n mi hi Di ni mj sh E → J l m_Law_law ad G X false Z 68 (cells + 1) (slots + 6) 1708 [some (aR 1001), some (aR 0), some (aR 53), some (aR 67), some (aI i), none, none, none] [] w) : J l m_Law_law ad G X false Z 68 cells slots 538 [some (aR 1001), some (aR 0), some (aR 53), some (aR 67), some (aI i), none, none, none] [] w := by
  have hB := hI.1
  obtain ⟨hC, hM, f0, hf⟩ := hW
  have hO := hC.1
  refine j_aload_n (pc' := 539) (z := 0) dL_law_538 rfl rfl ?_
  refine j_aload_n (pc' := 540) (z := 1001) dL_law_539 rfl rfl ?_
  refine j_iload (pc' := 542) (z := i) dL_law_540 rfl rfl ?_
  refine j_iconst (pc' := 543) dL_law_542 rfl ?_
  refine j_iadd (pc' := 544) dL_law_543 rfl ?_
  refine j_xld (pc' := 545) (f := scr) (n := len) dL_law_544 rfl hX (by omega) (by omega) ?_
  refine j_callV (pc' := 548) (q := 0) (as := [aI (scr (i + 1))]) (rest := []) dL_law_545 rfl s_Law_64 (c_Top_loudest hC hI.1 hI.2.1 hI.2.2.1 hI.2.2.2.1 (hsc _)) (by omega) hO rfl rfl rfl (rmL hcs rfl) (fun r1 w1 h1 => ?_)
  obtain ⟨rfl, hT1⟩ := h1
  have hM1 := hM.congr (w' := w1) (fun j a b => hT1.2 j a)
  obtain ⟨⟨pc9, ra9, re9, fm9, se9, th9, h53⟩, -⟩ := id hM1
  refine j_aload_n (pc' := 549) (z := 53) dL_law_548 rfl rfl ?_
  refine j_aload_n (pc' := 550) (z := 1001) dL_law_549 rfl rfl ?_
  refine j_iload (pc' := 552) (z := i) dL_law_550 rfl rfl ?_
  refine j_iconst (pc' := 553) dL_law_552 rfl ?_
  refine j_iadd (pc' := 554) dL_law_553 rfl ?_
  refine j_xld (pc' := 555) (f := scr) (n := len) dL_law_554 rfl hX (by omega) (by omega) ?_
  refine j_callV (pc' := 558) (q := 53) (as := [aI (scr (i + 1))]) (rest := [aI _]) dL_law_555 rfl s_Law_67 (c_Mod_loudest hM1 hI.1 hI.2.1 hI.2.2.1 hI.2.2.2.1 hI.2.2.2.2.1 (hsc _)) (by omega) h53 rfl rfl rfl (rmL hcs rfl) (fun r2 w2 h2 => ?_)
  obtain ⟨rfl, hT2⟩ := h2
  refine j_icmpE (tgt := 1708) dL_law_558 (by decide) ?_
  refine j_wide (k9 := cells + 1) (n9 := slots + 6) (Nat.le_succ _) (Nat.le_add_right _ _) ?_
  exact kont _ _ _ _ _ _ _ _ _ _ ⟨hT1.1.congr (fun j a => hT2.2 j (Or.inl a)), hT2.1, f0, by rw [hT2.2 67 (Or.inr (by omega)), hT1.2 67 (by omega)]; exact hf⟩ hI
set_option maxRecDepth 100000 in
set_option maxHeartbeats 4000000 in
theorem lc_11 {l : Launch} {ad : Nat → Nat} {G : JG} {X : List (Nat × Nat × (Int → Int))} {Z : JZ} {cells slots len : Nat} {scr : Int → Int} {i : Int} {w : AW} {D Di : Int → Int → Int} {n mi hi ni mj : Int} {sh E : Int → Int → Int} (hl9 : l.stackTraces = false) (hX : (1001, len, scr) ∈ X) (hlen : len ≤ 3072) (hi9 : 0 ≤ i ∧ i + 6 ≤ len) (hsc : ∀ j, inI (scr j)) (hcs : cells + 1 ≤ 601024 ∧ slots + 6 ≤ 7293034) (hW : LW w D n mi hi Di ni mj sh E) (hI : Inv D n mi hi Di ni mj sh E) (kont : ∀ (D Di : Int → Int → Int) (n mi hi ni mj : Int) (sh E : Int → Int → Int) (w : AW), LW w D n mi hi Di ni mj sh E → Inv D n mi hi Di ni mj sh E → J l m_Law_law ad G X false Z 68 (cells + 1) (slots + 6) 1708 [some (aR 1001), some (aR 0), some (aR 53), some (aR 67), some (aI i), none, none, none] [] w) : J l m_Law_law ad G X false Z 68 cells slots 563 [some (aR 1001), some (aR 0), some (aR 53), some (aR 67), some (aI i), none, none, none] [] w := by
  have hB := hI.1
  obtain ⟨hC, hM, f0, hf⟩ := hW
  have hO := hC.1
  refine j_aload_n (pc' := 564) (z := 0) dL_law_563 rfl rfl ?_
  refine j_aload_n (pc' := 565) (z := 1001) dL_law_564 rfl rfl ?_
  refine j_iload (pc' := 567) (z := i) dL_law_565 rfl rfl ?_
  refine j_iconst (pc' := 568) dL_law_567 rfl ?_
  refine j_iadd (pc' := 569) dL_law_568 rfl ?_
  refine j_xld (pc' := 570) (f := scr) (n := len) dL_law_569 rfl hX (by omega) (by omega) ?_
  refine j_aload_n (pc' := 571) (z := 1001) dL_law_570 rfl rfl ?_
  refine j_iload (pc' := 573) (z := i) dL_law_571 rfl rfl ?_
  refine j_iconst (pc' := 574) dL_law_573 rfl ?_
  refine j_iadd (pc' := 575) dL_law_574 rfl ?_
  refine j_xld (pc' := 576) (f := scr) (n := len) dL_law_575 rfl hX (by omega) (by omega) ?_
  refine j_callV (pc' := 579) (q := 0) (as := [aI (scr (i + 1)), aI (scr (i + 2))]) (rest := []) dL_law_576 rfl s_Law_68 (c_Top_paces hC hI.1 hI.2.1 hI.2.2.1 hI.2.2.2.1 (hsc _) (hsc _)) (by omega) hO rfl rfl rfl (rmL hcs rfl) (fun r1 w1 h1 => ?_)
  obtain ⟨rfl, hT1⟩ := h1
  have hM1 := hM.congr (w' := w1) (fun j a b => hT1.2 j a)
  obtain ⟨⟨pc9, ra9, re9, fm9, se9, th9, h53⟩, -⟩ := id hM1
  refine j_aload_n (pc' := 580) (z := 53) dL_law_579 rfl rfl ?_
  refine j_aload_n (pc' := 581) (z := 1001) dL_law_580 rfl rfl ?_
  refine j_iload (pc' := 583) (z := i) dL_law_581 rfl rfl ?_
  refine j_iconst (pc' := 584) dL_law_583 rfl ?_
  refine j_iadd (pc' := 585) dL_law_584 rfl ?_
  refine j_xld (pc' := 586) (f := scr) (n := len) dL_law_585 rfl hX (by omega) (by omega) ?_
  refine j_aload_n (pc' := 587) (z := 1001) dL_law_586 rfl rfl ?_
  refine j_iload (pc' := 589) (z := i) dL_law_587 rfl rfl ?_
  refine j_iconst (pc' := 590) dL_law_589 rfl ?_
  refine j_iadd (pc' := 591) dL_law_590 rfl ?_
  refine j_xld (pc' := 592) (f := scr) (n := len) dL_law_591 rfl hX (by omega) (by omega) ?_
  refine j_callV (pc' := 595) (q := 53) (as := [aI (scr (i + 1)), aI (scr (i + 2))]) (rest := [aI _]) dL_law_592 rfl s_Law_71 (c_Mod_paces hM1 hI.1 hI.2.1 hI.2.2.1 hI.2.2.2.1 hI.2.2.2.2.1 (hsc _) (hsc _)) (by omega) h53 rfl rfl rfl (rmL hcs rfl) (fun r2 w2 h2 => ?_)
  obtain ⟨rfl, hT2⟩ := h2
  refine j_icmpE (tgt := 1708) dL_law_595 (by decide) ?_
  refine j_wide (k9 := cells + 1) (n9 := slots + 6) (Nat.le_succ _) (Nat.le_add_right _ _) ?_
  exact kont _ _ _ _ _ _ _ _ _ _ ⟨hT1.1.congr (fun j a => hT2.2 j (Or.inl a)), hT2.1, f0, by rw [hT2.2 67 (Or.inr (by omega)), hT1.2 67 (by omega)]; exact hf⟩ hI
set_option maxRecDepth 100000 in
set_option maxHeartbeats 4000000 in
theorem lc_12 {l : Launch} {ad : Nat → Nat} {G : JG} {X : List (Nat × Nat × (Int → Int))} {Z : JZ} {cells slots len : Nat} {scr : Int → Int} {i : Int} {w : AW} {D Di : Int → Int → Int} {n mi hi ni mj : Int} {sh E : Int → Int → Int} (hl9 : l.stackTraces = false) (hX : (1001, len, scr) ∈ X) (hlen : len ≤ 3072) (hi9 : 0 ≤ i ∧ i + 6 ≤ len) (hsc : ∀ j, inI (scr j)) (hcs : cells + 1 ≤ 601024 ∧ slots + 6 ≤ 7293034) (hW : LW w D n mi hi Di ni mj sh E) (hI : Inv D n mi hi Di ni mj sh E) (kont : ∀ (D Di : Int → Int → Int) (n mi hi ni mj : Int) (sh E : Int → Int → Int) (w : AW), LW w D n mi hi Di ni mj sh E → Inv D n mi hi Di ni mj sh E → J l m_Law_law ad G X false Z 68 (cells + 1) (slots + 6) 1708 [some (aR 1001), some (aR 0), some (aR 53), some (aR 67), some (aI i), none, none, none] [] w) : J l m_Law_law ad G X false Z 68 cells slots 600 [some (aR 1001), some (aR 0), some (aR 53), some (aR 67), some (aI i), none, none, none] [] w := by
  have hB := hI.1
  obtain ⟨hC, hM, f0, hf⟩ := hW
  have hO := hC.1
  refine j_aload_n (pc' := 601) (z := 0) dL_law_600 rfl rfl ?_
  refine j_aload_n (pc' := 602) (z := 1001) dL_law_601 rfl rfl ?_
  refine j_iload (pc' := 604) (z := i) dL_law_602 rfl rfl ?_
  refine j_iconst (pc' := 605) dL_law_604 rfl ?_
  refine j_iadd (pc' := 606) dL_law_605 rfl ?_
  refine j_xld (pc' := 607) (f := scr) (n := len) dL_law_606 rfl hX (by omega) (by omega) ?_
  refine j_aload_n (pc' := 608) (z := 1001) dL_law_607 rfl rfl ?_
  refine j_iload (pc' := 610) (z := i) dL_law_608 rfl rfl ?_
  refine j_iconst (pc' := 611) dL_law_610 rfl ?_
  refine j_iadd (pc' := 612) dL_law_611 rfl ?_
  refine j_xld (pc' := 613) (f := scr) (n := len) dL_law_612 rfl hX (by omega) (by omega) ?_
  refine j_callV (pc' := 616) (q := 0) (as := [aI (scr (i + 1)), aI (scr (i + 2))]) (rest := []) dL_law_613 rfl s_Law_72 (c_Top_silentFrom hC hI.1 hI.2.1 hI.2.2.1 hI.2.2.2.1 (hsc _) (hsc _)) (by omega) hO rfl rfl rfl (rmL hcs rfl) (fun r1 w1 h1 => ?_)
  obtain ⟨rfl, hT1⟩ := h1
  have hM1 := hM.congr (w' := w1) (fun j a b => hT1.2 j a)
  obtain ⟨⟨pc9, ra9, re9, fm9, se9, th9, h53⟩, -⟩ := id hM1
  refine j_aload_n (pc' := 617) (z := 53) dL_law_616 rfl rfl ?_
  refine j_aload_n (pc' := 618) (z := 1001) dL_law_617 rfl rfl ?_
  refine j_iload (pc' := 620) (z := i) dL_law_618 rfl rfl ?_
  refine j_iconst (pc' := 621) dL_law_620 rfl ?_
  refine j_iadd (pc' := 622) dL_law_621 rfl ?_
  refine j_xld (pc' := 623) (f := scr) (n := len) dL_law_622 rfl hX (by omega) (by omega) ?_
  refine j_aload_n (pc' := 624) (z := 1001) dL_law_623 rfl rfl ?_
  refine j_iload (pc' := 626) (z := i) dL_law_624 rfl rfl ?_
  refine j_iconst (pc' := 627) dL_law_626 rfl ?_
  refine j_iadd (pc' := 628) dL_law_627 rfl ?_
  refine j_xld (pc' := 629) (f := scr) (n := len) dL_law_628 rfl hX (by omega) (by omega) ?_
  refine j_callV (pc' := 632) (q := 53) (as := [aI (scr (i + 1)), aI (scr (i + 2))]) (rest := [aI _]) dL_law_629 rfl s_Law_75 (c_Mod_silentFrom hM1 hI.1 hI.2.1 hI.2.2.1 hI.2.2.2.1 hI.2.2.2.2.1 (hsc _) (hsc _)) (by omega) h53 rfl rfl rfl (rmL hcs rfl) (fun r2 w2 h2 => ?_)
  obtain ⟨rfl, hT2⟩ := h2
  refine j_icmpE (tgt := 1708) dL_law_632 (by decide) ?_
  refine j_wide (k9 := cells + 1) (n9 := slots + 6) (Nat.le_succ _) (Nat.le_add_right _ _) ?_
  exact kont _ _ _ _ _ _ _ _ _ _ ⟨hT1.1.congr (fun j a => hT2.2 j (Or.inl a)), hT2.1, f0, by rw [hT2.2 67 (Or.inr (by omega)), hT1.2 67 (by omega)]; exact hf⟩ hI
set_option maxRecDepth 100000 in
set_option maxHeartbeats 4000000 in
theorem lc_13 {l : Launch} {ad : Nat → Nat} {G : JG} {X : List (Nat × Nat × (Int → Int))} {Z : JZ} {cells slots len : Nat} {scr : Int → Int} {i : Int} {w : AW} {D Di : Int → Int → Int} {n mi hi ni mj : Int} {sh E : Int → Int → Int} (hl9 : l.stackTraces = false) (hX : (1001, len, scr) ∈ X) (hlen : len ≤ 3072) (hi9 : 0 ≤ i ∧ i + 6 ≤ len) (hsc : ∀ j, inI (scr j)) (hcs : cells + 1 ≤ 601024 ∧ slots + 6 ≤ 7293034) (hW : LW w D n mi hi Di ni mj sh E) (hI : Inv D n mi hi Di ni mj sh E) (kont : ∀ (D Di : Int → Int → Int) (n mi hi ni mj : Int) (sh E : Int → Int → Int) (w : AW), LW w D n mi hi Di ni mj sh E → Inv D n mi hi Di ni mj sh E → J l m_Law_law ad G X false Z 68 (cells + 1) (slots + 6) 1708 [some (aR 1001), some (aR 0), some (aR 53), some (aR 67), some (aI i), none, none, none] [] w) : J l m_Law_law ad G X false Z 68 cells slots 637 [some (aR 1001), some (aR 0), some (aR 53), some (aR 67), some (aI i), none, none, none] [] w := by
  have hB := hI.1
  obtain ⟨hC, hM, f0, hf⟩ := hW
  have hO := hC.1
  refine j_aload_n (pc' := 638) (z := 0) dL_law_637 rfl rfl ?_
  refine j_aload_n (pc' := 639) (z := 1001) dL_law_638 rfl rfl ?_
  refine j_iload (pc' := 641) (z := i) dL_law_639 rfl rfl ?_
  refine j_iconst (pc' := 642) dL_law_641 rfl ?_
  refine j_iadd (pc' := 643) dL_law_642 rfl ?_
  refine j_xld (pc' := 644) (f := scr) (n := len) dL_law_643 rfl hX (by omega) (by omega) ?_
  refine j_callV (pc' := 647) (q := 0) (as := [aI (scr (i + 1))]) (rest := []) dL_law_644 rfl s_Law_76 (c_Top_holdAll hC hI.1 hI.2.1 hI.2.2.1 hI.2.2.2.1 (hsc _)) (by omega) hO rfl rfl rfl (rmL hcs rfl) (fun r1 w1 h1 => ?_)
  obtain ⟨rfl, hT1⟩ := h1
  have hM1 := hM.congr (w' := w1) (fun j a b => hT1.2 j a)
  obtain ⟨⟨pc9, ra9, re9, fm9, se9, th9, h53⟩, -⟩ := id hM1
  refine j_aload_n (pc' := 648) (z := 53) dL_law_647 rfl rfl ?_
  refine j_aload_n (pc' := 649) (z := 1001) dL_law_648 rfl rfl ?_
  refine j_iload (pc' := 651) (z := i) dL_law_649 rfl rfl ?_
  refine j_iconst (pc' := 652) dL_law_651 rfl ?_
  refine j_iadd (pc' := 653) dL_law_652 rfl ?_
  refine j_xld (pc' := 654) (f := scr) (n := len) dL_law_653 rfl hX (by omega) (by omega) ?_
  refine j_callV (pc' := 657) (q := 53) (as := [aI (scr (i + 1))]) (rest := [aI _]) dL_law_654 rfl s_Law_79 (c_Mod_holdAll hM1 hI.1 hI.2.1 hI.2.2.1 hI.2.2.2.1 hI.2.2.2.2.1 (hsc _)) (by omega) h53 rfl rfl rfl (rmL hcs rfl) (fun r2 w2 h2 => ?_)
  obtain ⟨rfl, hT2⟩ := h2
  refine j_icmpE (tgt := 1708) dL_law_657 (by decide) ?_
  refine j_wide (k9 := cells + 1) (n9 := slots + 6) (Nat.le_succ _) (Nat.le_add_right _ _) ?_
  exact kont _ _ _ _ _ _ _ _ _ _ ⟨hT1.1.congr (fun j a => hT2.2 j (Or.inl a)), hT2.1, f0, by rw [hT2.2 67 (Or.inr (by omega)), hT1.2 67 (by omega)]; exact hf⟩ hI
set_option maxRecDepth 100000 in
set_option maxHeartbeats 4000000 in
theorem lc_14 {l : Launch} {ad : Nat → Nat} {G : JG} {X : List (Nat × Nat × (Int → Int))} {Z : JZ} {cells slots len : Nat} {scr : Int → Int} {i : Int} {w : AW} {D Di : Int → Int → Int} {n mi hi ni mj : Int} {sh E : Int → Int → Int} (hl9 : l.stackTraces = false) (hX : (1001, len, scr) ∈ X) (hlen : len ≤ 3072) (hi9 : 0 ≤ i ∧ i + 6 ≤ len) (hsc : ∀ j, inI (scr j)) (hcs : cells + 1 ≤ 601024 ∧ slots + 6 ≤ 7293034) (hW : LW w D n mi hi Di ni mj sh E) (hI : Inv D n mi hi Di ni mj sh E) (kont : ∀ (D Di : Int → Int → Int) (n mi hi ni mj : Int) (sh E : Int → Int → Int) (w : AW), LW w D n mi hi Di ni mj sh E → Inv D n mi hi Di ni mj sh E → J l m_Law_law ad G X false Z 68 (cells + 1) (slots + 6) 1708 [some (aR 1001), some (aR 0), some (aR 53), some (aR 67), some (aI i), none, none, none] [] w) : J l m_Law_law ad G X false Z 68 cells slots 662 [some (aR 1001), some (aR 0), some (aR 53), some (aR 67), some (aI i), none, none, none] [] w := by
  have hB := hI.1
  obtain ⟨hC, hM, f0, hf⟩ := hW
  have hO := hC.1
  refine j_aload_n (pc' := 663) (z := 0) dL_law_662 rfl rfl ?_
  refine j_aload_n (pc' := 664) (z := 1001) dL_law_663 rfl rfl ?_
  refine j_iload (pc' := 666) (z := i) dL_law_664 rfl rfl ?_
  refine j_iconst (pc' := 667) dL_law_666 rfl ?_
  refine j_iadd (pc' := 668) dL_law_667 rfl ?_
  refine j_xld (pc' := 669) (f := scr) (n := len) dL_law_668 rfl hX (by omega) (by omega) ?_
  refine j_callV (pc' := 672) (q := 0) (as := [aI (scr (i + 1))]) (rest := []) dL_law_669 rfl s_Law_80 (c_Top_radio hC hI.1 hI.2.1 hI.2.2.1 hI.2.2.2.1 (hsc _)) (by omega) hO rfl rfl rfl (rmL hcs rfl) (fun r1 w1 h1 => ?_)
  obtain ⟨rfl, hT1⟩ := h1
  have hM1 := hM.congr (w' := w1) (fun j a b => hT1.2 j a)
  obtain ⟨⟨pc9, ra9, re9, fm9, se9, th9, h53⟩, -⟩ := id hM1
  refine j_aload_n (pc' := 673) (z := 53) dL_law_672 rfl rfl ?_
  refine j_aload_n (pc' := 674) (z := 1001) dL_law_673 rfl rfl ?_
  refine j_iload (pc' := 676) (z := i) dL_law_674 rfl rfl ?_
  refine j_iconst (pc' := 677) dL_law_676 rfl ?_
  refine j_iadd (pc' := 678) dL_law_677 rfl ?_
  refine j_xld (pc' := 679) (f := scr) (n := len) dL_law_678 rfl hX (by omega) (by omega) ?_
  refine j_callV (pc' := 682) (q := 53) (as := [aI (scr (i + 1))]) (rest := [aI _]) dL_law_679 rfl s_Law_83 (c_Mod_radio hM1 hI.1 hI.2.1 hI.2.2.1 hI.2.2.2.1 hI.2.2.2.2.1 (hsc _)) (by omega) h53 rfl rfl rfl (rmL hcs rfl) (fun r2 w2 h2 => ?_)
  obtain ⟨rfl, hT2⟩ := h2
  refine j_icmpE (tgt := 1708) dL_law_682 (by decide) ?_
  refine j_wide (k9 := cells + 1) (n9 := slots + 6) (Nat.le_succ _) (Nat.le_add_right _ _) ?_
  exact kont _ _ _ _ _ _ _ _ _ _ ⟨hT1.1.congr (fun j a => hT2.2 j (Or.inl a)), hT2.1, f0, by rw [hT2.2 67 (Or.inr (by omega)), hT1.2 67 (by omega)]; exact hf⟩ hI
set_option maxRecDepth 100000 in
set_option maxHeartbeats 4000000 in
theorem lc_15 {l : Launch} {ad : Nat → Nat} {G : JG} {X : List (Nat × Nat × (Int → Int))} {Z : JZ} {cells slots len : Nat} {scr : Int → Int} {i : Int} {w : AW} {D Di : Int → Int → Int} {n mi hi ni mj : Int} {sh E : Int → Int → Int} (hl9 : l.stackTraces = false) (hX : (1001, len, scr) ∈ X) (hlen : len ≤ 3072) (hi9 : 0 ≤ i ∧ i + 6 ≤ len) (hsc : ∀ j, inI (scr j)) (hcs : cells + 1 ≤ 601024 ∧ slots + 6 ≤ 7293034) (hW : LW w D n mi hi Di ni mj sh E) (hI : Inv D n mi hi Di ni mj sh E) (kont : ∀ (D Di : Int → Int → Int) (n mi hi ni mj : Int) (sh E : Int → Int → Int) (w : AW), LW w D n mi hi Di ni mj sh E → Inv D n mi hi Di ni mj sh E → J l m_Law_law ad G X false Z 68 (cells + 1) (slots + 6) 1708 [some (aR 1001), some (aR 0), some (aR 53), some (aR 67), some (aI i), none, none, none] [] w) : J l m_Law_law ad G X false Z 68 cells slots 687 [some (aR 1001), some (aR 0), some (aR 53), some (aR 67), some (aI i), none, none, none] [] w := by
  have hB := hI.1
  obtain ⟨hC, hM, f0, hf⟩ := hW
  have hO := hC.1
  refine j_aload_n (pc' := 688) (z := 0) dL_law_687 rfl rfl ?_
  refine j_aload_n (pc' := 689) (z := 1001) dL_law_688 rfl rfl ?_
  refine j_iload (pc' := 691) (z := i) dL_law_689 rfl rfl ?_
  refine j_iconst (pc' := 692) dL_law_691 rfl ?_
  refine j_iadd (pc' := 693) dL_law_692 rfl ?_
  refine j_xld (pc' := 694) (f := scr) (n := len) dL_law_693 rfl hX (by omega) (by omega) ?_
  refine j_callV (pc' := 697) (q := 0) (as := [aI (scr (i + 1))]) (rest := []) dL_law_694 rfl s_Law_84 (c_Top_wanted hC hI.1 hI.2.1 hI.2.2.1 hI.2.2.2.1 (hsc _)) (by omega) hO rfl rfl rfl (rmL hcs rfl) (fun r1 w1 h1 => ?_)
  obtain ⟨rfl, hT1⟩ := h1
  have hM1 := hM.congr (w' := w1) (fun j a b => hT1.2 j a)
  obtain ⟨⟨pc9, ra9, re9, fm9, se9, th9, h53⟩, -⟩ := id hM1
  refine j_aload_n (pc' := 698) (z := 53) dL_law_697 rfl rfl ?_
  refine j_aload_n (pc' := 699) (z := 1001) dL_law_698 rfl rfl ?_
  refine j_iload (pc' := 701) (z := i) dL_law_699 rfl rfl ?_
  refine j_iconst (pc' := 702) dL_law_701 rfl ?_
  refine j_iadd (pc' := 703) dL_law_702 rfl ?_
  refine j_xld (pc' := 704) (f := scr) (n := len) dL_law_703 rfl hX (by omega) (by omega) ?_
  refine j_callV (pc' := 707) (q := 53) (as := [aI (scr (i + 1))]) (rest := [aI _]) dL_law_704 rfl s_Law_87 (c_Mod_wanted hM1 hI.1 hI.2.1 hI.2.2.1 hI.2.2.2.1 hI.2.2.2.2.1 (hsc _)) (by omega) h53 rfl rfl rfl (rmL hcs rfl) (fun r2 w2 h2 => ?_)
  obtain ⟨rfl, hT2⟩ := h2
  refine j_icmpE (tgt := 1708) dL_law_707 (by decide) ?_
  refine j_wide (k9 := cells + 1) (n9 := slots + 6) (Nat.le_succ _) (Nat.le_add_right _ _) ?_
  exact kont _ _ _ _ _ _ _ _ _ _ ⟨hT1.1.congr (fun j a => hT2.2 j (Or.inl a)), hT2.1, f0, by rw [hT2.2 67 (Or.inr (by omega)), hT1.2 67 (by omega)]; exact hf⟩ hI
set_option maxRecDepth 100000 in
set_option maxHeartbeats 4000000 in
theorem lc_16 {l : Launch} {ad : Nat → Nat} {G : JG} {X : List (Nat × Nat × (Int → Int))} {Z : JZ} {cells slots len : Nat} {scr : Int → Int} {i : Int} {w : AW} {D Di : Int → Int → Int} {n mi hi ni mj : Int} {sh E : Int → Int → Int} (hl9 : l.stackTraces = false) (hX : (1001, len, scr) ∈ X) (hlen : len ≤ 3072) (hi9 : 0 ≤ i ∧ i + 6 ≤ len) (hsc : ∀ j, inI (scr j)) (hcs : cells + 1 ≤ 601024 ∧ slots + 6 ≤ 7293034) (hW : LW w D n mi hi Di ni mj sh E) (hI : Inv D n mi hi Di ni mj sh E) (kont : ∀ (D Di : Int → Int → Int) (n mi hi ni mj : Int) (sh E : Int → Int → Int) (w : AW), LW w D n mi hi Di ni mj sh E → Inv D n mi hi Di ni mj sh E → J l m_Law_law ad G X false Z 68 (cells + 1) (slots + 6) 1708 [some (aR 1001), some (aR 0), some (aR 53), some (aR 67), some (aI i), none, none, none] [] w) : J l m_Law_law ad G X false Z 68 cells slots 712 [some (aR 1001), some (aR 0), some (aR 53), some (aR 67), some (aI i), none, none, none] [] w := by
  have hB := hI.1
  obtain ⟨hC, hM, f0, hf⟩ := hW
  have hO := hC.1
  refine j_aload_n (pc' := 713) (z := 0) dL_law_712 rfl rfl ?_
  refine j_callV (pc' := 716) (q := 0) (as := []) (rest := []) dL_law_713 rfl s_Law_88 (c_Top_bestSeat hC hI.1 hI.2.1 hI.2.2.1 hI.2.2.2.1 ) (by omega) hO rfl rfl rfl (rmL hcs rfl) (fun r1 w1 h1 => ?_)
  obtain ⟨rfl, hT1⟩ := h1
  have hM1 := hM.congr (w' := w1) (fun j a b => hT1.2 j a)
  obtain ⟨⟨pc9, ra9, re9, fm9, se9, th9, h53⟩, -⟩ := id hM1
  refine j_aload_n (pc' := 717) (z := 53) dL_law_716 rfl rfl ?_
  refine j_callV (pc' := 720) (q := 53) (as := []) (rest := [aI _]) dL_law_717 rfl s_Law_92 (c_Mod_bestSeat hM1 hI.1 hI.2.1 hI.2.2.1 hI.2.2.2.1 hI.2.2.2.2.1 ) (by omega) h53 rfl rfl rfl (rmL hcs rfl) (fun r2 w2 h2 => ?_)
  obtain ⟨rfl, hT2⟩ := h2
  refine j_icmpE (tgt := 1708) dL_law_720 (by decide) ?_
  refine j_wide (k9 := cells + 1) (n9 := slots + 6) (Nat.le_succ _) (Nat.le_add_right _ _) ?_
  exact kont _ _ _ _ _ _ _ _ _ _ ⟨hT1.1.congr (fun j a => hT2.2 j (Or.inl a)), hT2.1, f0, by rw [hT2.2 67 (Or.inr (by omega)), hT1.2 67 (by omega)]; exact hf⟩ hI
set_option maxRecDepth 100000 in
set_option maxHeartbeats 4000000 in
theorem lc_17 {l : Launch} {ad : Nat → Nat} {G : JG} {X : List (Nat × Nat × (Int → Int))} {Z : JZ} {cells slots len : Nat} {scr : Int → Int} {i : Int} {w : AW} {D Di : Int → Int → Int} {n mi hi ni mj : Int} {sh E : Int → Int → Int} (hl9 : l.stackTraces = false) (hX : (1001, len, scr) ∈ X) (hlen : len ≤ 3072) (hi9 : 0 ≤ i ∧ i + 6 ≤ len) (hsc : ∀ j, inI (scr j)) (hcs : cells + 1 ≤ 601024 ∧ slots + 6 ≤ 7293034) (hW : LW w D n mi hi Di ni mj sh E) (hI : Inv D n mi hi Di ni mj sh E) (kont : ∀ (D Di : Int → Int → Int) (n mi hi ni mj : Int) (sh E : Int → Int → Int) (w : AW), LW w D n mi hi Di ni mj sh E → Inv D n mi hi Di ni mj sh E → J l m_Law_law ad G X false Z 68 (cells + 1) (slots + 6) 1708 [some (aR 1001), some (aR 0), some (aR 53), some (aR 67), some (aI i), none, none, none] [] w) : J l m_Law_law ad G X false Z 68 cells slots 725 [some (aR 1001), some (aR 0), some (aR 53), some (aR 67), some (aI i), none, none, none] [] w := by
  have hB := hI.1
  obtain ⟨hC, hM, f0, hf⟩ := hW
  have hO := hC.1
  refine j_aload_n (pc' := 726) (z := 0) dL_law_725 rfl rfl ?_
  refine j_aload_n (pc' := 727) (z := 1001) dL_law_726 rfl rfl ?_
  refine j_iload (pc' := 729) (z := i) dL_law_727 rfl rfl ?_
  refine j_iconst (pc' := 730) dL_law_729 rfl ?_
  refine j_iadd (pc' := 731) dL_law_730 rfl ?_
  refine j_xld (pc' := 732) (f := scr) (n := len) dL_law_731 rfl hX (by omega) (by omega) ?_
  refine j_aload_n (pc' := 733) (z := 1001) dL_law_732 rfl rfl ?_
  refine j_iload (pc' := 735) (z := i) dL_law_733 rfl rfl ?_
  refine j_iconst (pc' := 736) dL_law_735 rfl ?_
  refine j_iadd (pc' := 737) dL_law_736 rfl ?_
  refine j_xld (pc' := 738) (f := scr) (n := len) dL_law_737 rfl hX (by omega) (by omega) ?_
  refine j_callV (pc' := 741) (q := 0) (as := [aI (scr (i + 1)), aI (scr (i + 2))]) (rest := []) dL_law_738 rfl s_Law_93 (c_Top_which hC hI.1 hI.2.1 hI.2.2.1 hI.2.2.2.1 (hsc _) (hsc _)) (by omega) hO rfl rfl rfl (rmL hcs rfl) (fun r1 w1 h1 => ?_)
  obtain ⟨rfl, hT1⟩ := h1
  have hM1 := hM.congr (w' := w1) (fun j a b => hT1.2 j a)
  obtain ⟨⟨pc9, ra9, re9, fm9, se9, th9, h53⟩, -⟩ := id hM1
  refine j_aload_n (pc' := 742) (z := 53) dL_law_741 rfl rfl ?_
  refine j_aload_n (pc' := 743) (z := 1001) dL_law_742 rfl rfl ?_
  refine j_iload (pc' := 745) (z := i) dL_law_743 rfl rfl ?_
  refine j_iconst (pc' := 746) dL_law_745 rfl ?_
  refine j_iadd (pc' := 747) dL_law_746 rfl ?_
  refine j_xld (pc' := 748) (f := scr) (n := len) dL_law_747 rfl hX (by omega) (by omega) ?_
  refine j_aload_n (pc' := 749) (z := 1001) dL_law_748 rfl rfl ?_
  refine j_iload (pc' := 751) (z := i) dL_law_749 rfl rfl ?_
  refine j_iconst (pc' := 752) dL_law_751 rfl ?_
  refine j_iadd (pc' := 753) dL_law_752 rfl ?_
  refine j_xld (pc' := 754) (f := scr) (n := len) dL_law_753 rfl hX (by omega) (by omega) ?_
  refine j_callV (pc' := 757) (q := 53) (as := [aI (scr (i + 1)), aI (scr (i + 2))]) (rest := [aI _]) dL_law_754 rfl s_Law_96 (c_Mod_which hM1 hI.1 hI.2.1 hI.2.2.1 hI.2.2.2.1 hI.2.2.2.2.1 (hsc _) (hsc _)) (by omega) h53 rfl rfl rfl (rmL hcs rfl) (fun r2 w2 h2 => ?_)
  obtain ⟨rfl, hT2⟩ := h2
  refine j_icmpE (tgt := 1708) dL_law_757 (by decide) ?_
  refine j_wide (k9 := cells + 1) (n9 := slots + 6) (Nat.le_succ _) (Nat.le_add_right _ _) ?_
  exact kont _ _ _ _ _ _ _ _ _ _ ⟨hT1.1.congr (fun j a => hT2.2 j (Or.inl a)), hT2.1, f0, by rw [hT2.2 67 (Or.inr (by omega)), hT1.2 67 (by omega)]; exact hf⟩ hI
set_option maxRecDepth 100000 in
set_option maxHeartbeats 4000000 in
theorem lc_18 {l : Launch} {ad : Nat → Nat} {G : JG} {X : List (Nat × Nat × (Int → Int))} {Z : JZ} {cells slots len : Nat} {scr : Int → Int} {i : Int} {w : AW} {D Di : Int → Int → Int} {n mi hi ni mj : Int} {sh E : Int → Int → Int} (hl9 : l.stackTraces = false) (hX : (1001, len, scr) ∈ X) (hlen : len ≤ 3072) (hi9 : 0 ≤ i ∧ i + 6 ≤ len) (hsc : ∀ j, inI (scr j)) (hcs : cells + 1 ≤ 601024 ∧ slots + 6 ≤ 7293034) (hW : LW w D n mi hi Di ni mj sh E) (hI : Inv D n mi hi Di ni mj sh E) (kont : ∀ (D Di : Int → Int → Int) (n mi hi ni mj : Int) (sh E : Int → Int → Int) (w : AW), LW w D n mi hi Di ni mj sh E → Inv D n mi hi Di ni mj sh E → J l m_Law_law ad G X false Z 68 (cells + 1) (slots + 6) 1708 [some (aR 1001), some (aR 0), some (aR 53), some (aR 67), some (aI i), none, none, none] [] w) : J l m_Law_law ad G X false Z 68 cells slots 762 [some (aR 1001), some (aR 0), some (aR 53), some (aR 67), some (aI i), none, none, none] [] w := by
  have hB := hI.1
  obtain ⟨hC, hM, f0, hf⟩ := hW
  have hO := hC.1
  refine j_aload_n (pc' := 763) (z := 0) dL_law_762 rfl rfl ?_
  refine j_aload_n (pc' := 764) (z := 1001) dL_law_763 rfl rfl ?_
  refine j_iload (pc' := 766) (z := i) dL_law_764 rfl rfl ?_
  refine j_iconst (pc' := 767) dL_law_766 rfl ?_
  refine j_iadd (pc' := 768) dL_law_767 rfl ?_
  refine j_xld (pc' := 769) (f := scr) (n := len) dL_law_768 rfl hX (by omega) (by omega) ?_
  refine j_aload_n (pc' := 770) (z := 1001) dL_law_769 rfl rfl ?_
  refine j_iload (pc' := 772) (z := i) dL_law_770 rfl rfl ?_
  refine j_iconst (pc' := 773) dL_law_772 rfl ?_
  refine j_iadd (pc' := 774) dL_law_773 rfl ?_
  refine j_xld (pc' := 775) (f := scr) (n := len) dL_law_774 rfl hX (by omega) (by omega) ?_
  refine j_callV (pc' := 778) (q := 0) (as := [aI (scr (i + 1)), aI (scr (i + 2))]) (rest := []) dL_law_775 rfl s_Law_97 (c_Top_two hC hI.1 hI.2.1 hI.2.2.1 hI.2.2.2.1 (hsc _) (hsc _)) (by omega) hO rfl rfl rfl (rmL hcs rfl) (fun r1 w1 h1 => ?_)
  obtain ⟨rfl, hT1⟩ := h1
  have hM1 := hM.congr (w' := w1) (fun j a b => hT1.2 j a)
  obtain ⟨⟨pc9, ra9, re9, fm9, se9, th9, h53⟩, -⟩ := id hM1
  refine j_aload_n (pc' := 779) (z := 53) dL_law_778 rfl rfl ?_
  refine j_aload_n (pc' := 780) (z := 1001) dL_law_779 rfl rfl ?_
  refine j_iload (pc' := 782) (z := i) dL_law_780 rfl rfl ?_
  refine j_iconst (pc' := 783) dL_law_782 rfl ?_
  refine j_iadd (pc' := 784) dL_law_783 rfl ?_
  refine j_xld (pc' := 785) (f := scr) (n := len) dL_law_784 rfl hX (by omega) (by omega) ?_
  refine j_aload_n (pc' := 786) (z := 1001) dL_law_785 rfl rfl ?_
  refine j_iload (pc' := 788) (z := i) dL_law_786 rfl rfl ?_
  refine j_iconst (pc' := 789) dL_law_788 rfl ?_
  refine j_iadd (pc' := 790) dL_law_789 rfl ?_
  refine j_xld (pc' := 791) (f := scr) (n := len) dL_law_790 rfl hX (by omega) (by omega) ?_
  refine j_callV (pc' := 794) (q := 53) (as := [aI (scr (i + 1)), aI (scr (i + 2))]) (rest := [aI _]) dL_law_791 rfl s_Law_100 (c_Mod_two hM1 hI.1 hI.2.1 hI.2.2.1 hI.2.2.2.1 hI.2.2.2.2.1 (hsc _) (hsc _)) (by omega) h53 rfl rfl rfl (rmL hcs rfl) (fun r2 w2 h2 => ?_)
  obtain ⟨rfl, hT2⟩ := h2
  refine j_icmpE (tgt := 1708) dL_law_794 (by decide) ?_
  refine j_wide (k9 := cells + 1) (n9 := slots + 6) (Nat.le_succ _) (Nat.le_add_right _ _) ?_
  exact kont _ _ _ _ _ _ _ _ _ _ ⟨hT1.1.congr (fun j a => hT2.2 j (Or.inl a)), hT2.1, f0, by rw [hT2.2 67 (Or.inr (by omega)), hT1.2 67 (by omega)]; exact hf⟩ hI
set_option maxRecDepth 100000 in
set_option maxHeartbeats 4000000 in
theorem lc_19 {l : Launch} {ad : Nat → Nat} {G : JG} {X : List (Nat × Nat × (Int → Int))} {Z : JZ} {cells slots len : Nat} {scr : Int → Int} {i : Int} {w : AW} {D Di : Int → Int → Int} {n mi hi ni mj : Int} {sh E : Int → Int → Int} (hl9 : l.stackTraces = false) (hX : (1001, len, scr) ∈ X) (hlen : len ≤ 3072) (hi9 : 0 ≤ i ∧ i + 6 ≤ len) (hsc : ∀ j, inI (scr j)) (hcs : cells + 1 ≤ 601024 ∧ slots + 6 ≤ 7293034) (hW : LW w D n mi hi Di ni mj sh E) (hI : Inv D n mi hi Di ni mj sh E) (kont : ∀ (D Di : Int → Int → Int) (n mi hi ni mj : Int) (sh E : Int → Int → Int) (w : AW), LW w D n mi hi Di ni mj sh E → Inv D n mi hi Di ni mj sh E → J l m_Law_law ad G X false Z 68 (cells + 1) (slots + 6) 1708 [some (aR 1001), some (aR 0), some (aR 53), some (aR 67), some (aI i), none, none, none] [] w) : J l m_Law_law ad G X false Z 68 cells slots 799 [some (aR 1001), some (aR 0), some (aR 53), some (aR 67), some (aI i), none, none, none] [] w := by
  have hB := hI.1
  obtain ⟨hC, hM, f0, hf⟩ := hW
  have hO := hC.1
  refine j_aload_n (pc' := 800) (z := 0) dL_law_799 rfl rfl ?_
  refine j_aload_n (pc' := 801) (z := 1001) dL_law_800 rfl rfl ?_
  refine j_iload (pc' := 803) (z := i) dL_law_801 rfl rfl ?_
  refine j_iconst (pc' := 804) dL_law_803 rfl ?_
  refine j_iadd (pc' := 805) dL_law_804 rfl ?_
  refine j_xld (pc' := 806) (f := scr) (n := len) dL_law_805 rfl hX (by omega) (by omega) ?_
  refine j_callV (pc' := 809) (q := 0) (as := [aI (scr (i + 1))]) (rest := []) dL_law_806 rfl s_Law_101 (c_Top_tryNext hC hI.1 hI.2.1 hI.2.2.1 hI.2.2.2.1 (hsc _)) (by omega) hO rfl rfl rfl (rmL hcs rfl) (fun r1 w1 h1 => ?_)
  obtain ⟨rfl, hT1⟩ := h1
  have hM1 := hM.congr (w' := w1) (fun j a b => hT1.2 j a)
  obtain ⟨⟨pc9, ra9, re9, fm9, se9, th9, h53⟩, -⟩ := id hM1
  refine j_aload_n (pc' := 810) (z := 53) dL_law_809 rfl rfl ?_
  refine j_aload_n (pc' := 811) (z := 1001) dL_law_810 rfl rfl ?_
  refine j_iload (pc' := 813) (z := i) dL_law_811 rfl rfl ?_
  refine j_iconst (pc' := 814) dL_law_813 rfl ?_
  refine j_iadd (pc' := 815) dL_law_814 rfl ?_
  refine j_xld (pc' := 816) (f := scr) (n := len) dL_law_815 rfl hX (by omega) (by omega) ?_
  refine j_callV (pc' := 819) (q := 53) (as := [aI (scr (i + 1))]) (rest := [aI _]) dL_law_816 rfl s_Law_104 (c_Mod_tryNext hM1 hI.1 hI.2.1 hI.2.2.1 hI.2.2.2.1 hI.2.2.2.2.1 (hsc _)) (by omega) h53 rfl rfl rfl (rmL hcs rfl) (fun r2 w2 h2 => ?_)
  obtain ⟨rfl, hT2⟩ := h2
  refine j_icmpE (tgt := 1708) dL_law_819 (by decide) ?_
  refine j_wide (k9 := cells + 1) (n9 := slots + 6) (Nat.le_succ _) (Nat.le_add_right _ _) ?_
  exact kont _ _ _ _ _ _ _ _ _ _ ⟨hT1.1.congr (fun j a => hT2.2 j (Or.inl a)), hT2.1, f0, by rw [hT2.2 67 (Or.inr (by omega)), hT1.2 67 (by omega)]; exact hf⟩ hI
set_option maxRecDepth 100000 in
set_option maxHeartbeats 4000000 in
theorem lc_20 {l : Launch} {ad : Nat → Nat} {G : JG} {X : List (Nat × Nat × (Int → Int))} {Z : JZ} {cells slots len : Nat} {scr : Int → Int} {i : Int} {w : AW} {D Di : Int → Int → Int} {n mi hi ni mj : Int} {sh E : Int → Int → Int} (hl9 : l.stackTraces = false) (hX : (1001, len, scr) ∈ X) (hlen : len ≤ 3072) (hi9 : 0 ≤ i ∧ i + 6 ≤ len) (hsc : ∀ j, inI (scr j)) (hcs : cells + 1 ≤ 601024 ∧ slots + 6 ≤ 7293034) (hW : LW w D n mi hi Di ni mj sh E) (hI : Inv D n mi hi Di ni mj sh E) (kont : ∀ (D Di : Int → Int → Int) (n mi hi ni mj : Int) (sh E : Int → Int → Int) (w : AW), LW w D n mi hi Di ni mj sh E → Inv D n mi hi Di ni mj sh E → J l m_Law_law ad G X false Z 68 (cells + 1) (slots + 6) 1708 [some (aR 1001), some (aR 0), some (aR 53), some (aR 67), some (aI i), none, none, none] [] w) : J l m_Law_law ad G X false Z 68 cells slots 824 [some (aR 1001), some (aR 0), some (aR 53), some (aR 67), some (aI i), none, none, none] [] w := by
  have hB := hI.1
  obtain ⟨hC, hM, f0, hf⟩ := hW
  have hO := hC.1
  refine j_aload_n (pc' := 825) (z := 0) dL_law_824 rfl rfl ?_
  refine j_aload_n (pc' := 826) (z := 1001) dL_law_825 rfl rfl ?_
  refine j_iload (pc' := 828) (z := i) dL_law_826 rfl rfl ?_
  refine j_iconst (pc' := 829) dL_law_828 rfl ?_
  refine j_iadd (pc' := 830) dL_law_829 rfl ?_
  refine j_xld (pc' := 831) (f := scr) (n := len) dL_law_830 rfl hX (by omega) (by omega) ?_
  refine j_aload_n (pc' := 832) (z := 1001) dL_law_831 rfl rfl ?_
  refine j_iload (pc' := 834) (z := i) dL_law_832 rfl rfl ?_
  refine j_iconst (pc' := 835) dL_law_834 rfl ?_
  refine j_iadd (pc' := 836) dL_law_835 rfl ?_
  refine j_xld (pc' := 837) (f := scr) (n := len) dL_law_836 rfl hX (by omega) (by omega) ?_
  refine j_callV (pc' := 840) (q := 0) (as := [aI (scr (i + 1)), aI (scr (i + 2))]) (rest := []) dL_law_837 rfl s_Law_105 (c_Top_halves hC hI.1 hI.2.1 hI.2.2.1 hI.2.2.2.1 (hsc _) (hsc _)) (by omega) hO rfl rfl rfl (rmL hcs rfl) (fun r1 w1 h1 => ?_)
  obtain ⟨rfl, hT1⟩ := h1
  have hM1 := hM.congr (w' := w1) (fun j a b => hT1.2 j a)
  obtain ⟨⟨pc9, ra9, re9, fm9, se9, th9, h53⟩, -⟩ := id hM1
  refine j_aload_n (pc' := 841) (z := 53) dL_law_840 rfl rfl ?_
  refine j_aload_n (pc' := 842) (z := 1001) dL_law_841 rfl rfl ?_
  refine j_iload (pc' := 844) (z := i) dL_law_842 rfl rfl ?_
  refine j_iconst (pc' := 845) dL_law_844 rfl ?_
  refine j_iadd (pc' := 846) dL_law_845 rfl ?_
  refine j_xld (pc' := 847) (f := scr) (n := len) dL_law_846 rfl hX (by omega) (by omega) ?_
  refine j_aload_n (pc' := 848) (z := 1001) dL_law_847 rfl rfl ?_
  refine j_iload (pc' := 850) (z := i) dL_law_848 rfl rfl ?_
  refine j_iconst (pc' := 851) dL_law_850 rfl ?_
  refine j_iadd (pc' := 852) dL_law_851 rfl ?_
  refine j_xld (pc' := 853) (f := scr) (n := len) dL_law_852 rfl hX (by omega) (by omega) ?_
  refine j_callV (pc' := 856) (q := 53) (as := [aI (scr (i + 1)), aI (scr (i + 2))]) (rest := [aL _]) dL_law_853 rfl s_Law_108 (c_Mod_halves hM1 hI.1 hI.2.1 hI.2.2.1 hI.2.2.2.1 hI.2.2.2.2.1 (hsc _) (hsc _)) (by omega) h53 rfl rfl rfl (rmL hcs rfl) (fun r2 w2 h2 => ?_)
  obtain ⟨rfl, hT2⟩ := h2
  refine j_lcmpE (pc' := 857) dL_law_856 rfl ?_
  refine j_if_eq (tgt := 1708) (pc' := 860) dL_law_857 (by decide) rfl (by omega) (fun _ => ?_) (fun h => absurd rfl h)
  refine j_wide (k9 := cells + 1) (n9 := slots + 6) (Nat.le_succ _) (Nat.le_add_right _ _) ?_
  exact kont _ _ _ _ _ _ _ _ _ _ ⟨hT1.1.congr (fun j a => hT2.2 j (Or.inl a)), hT2.1, f0, by rw [hT2.2 67 (Or.inr (by omega)), hT1.2 67 (by omega)]; exact hf⟩ hI
set_option maxRecDepth 100000 in
set_option maxHeartbeats 4000000 in
theorem lc_21 {l : Launch} {ad : Nat → Nat} {G : JG} {X : List (Nat × Nat × (Int → Int))} {Z : JZ} {cells slots len : Nat} {scr : Int → Int} {i : Int} {w : AW} {D Di : Int → Int → Int} {n mi hi ni mj : Int} {sh E : Int → Int → Int} (hl9 : l.stackTraces = false) (hX : (1001, len, scr) ∈ X) (hlen : len ≤ 3072) (hi9 : 0 ≤ i ∧ i + 6 ≤ len) (hsc : ∀ j, inI (scr j)) (hcs : cells + 1 ≤ 601024 ∧ slots + 6 ≤ 7293034) (hW : LW w D n mi hi Di ni mj sh E) (hI : Inv D n mi hi Di ni mj sh E) (kont : ∀ (D Di : Int → Int → Int) (n mi hi ni mj : Int) (sh E : Int → Int → Int) (w : AW), LW w D n mi hi Di ni mj sh E → Inv D n mi hi Di ni mj sh E → J l m_Law_law ad G X false Z 68 (cells + 1) (slots + 6) 1708 [some (aR 1001), some (aR 0), some (aR 53), some (aR 67), some (aI i), none, none, none] [] w) : J l m_Law_law ad G X false Z 68 cells slots 862 [some (aR 1001), some (aR 0), some (aR 53), some (aR 67), some (aI i), none, none, none] [] w := by
  have hB := hI.1
  obtain ⟨hC, hM, f0, hf⟩ := hW
  have hO := hC.1
  refine j_aload_n (pc' := 863) (z := 0) dL_law_862 rfl rfl ?_
  refine j_aload_n (pc' := 864) (z := 1001) dL_law_863 rfl rfl ?_
  refine j_iload (pc' := 866) (z := i) dL_law_864 rfl rfl ?_
  refine j_iconst (pc' := 867) dL_law_866 rfl ?_
  refine j_iadd (pc' := 868) dL_law_867 rfl ?_
  refine j_xld (pc' := 869) (f := scr) (n := len) dL_law_868 rfl hX (by omega) (by omega) ?_
  refine j_aload_n (pc' := 870) (z := 1001) dL_law_869 rfl rfl ?_
  refine j_iload (pc' := 872) (z := i) dL_law_870 rfl rfl ?_
  refine j_iconst (pc' := 873) dL_law_872 rfl ?_
  refine j_iadd (pc' := 874) dL_law_873 rfl ?_
  refine j_xld (pc' := 875) (f := scr) (n := len) dL_law_874 rfl hX (by omega) (by omega) ?_
  refine j_callV (pc' := 878) (q := 0) (as := [aI (scr (i + 1)), aI (scr (i + 2))]) (rest := []) dL_law_875 rfl s_Law_109 (c_Top_oneByOne hC hI.1 hI.2.1 hI.2.2.1 hI.2.2.2.1 (hsc _) (hsc _)) (by omega) hO rfl rfl rfl (rmL hcs rfl) (fun r1 w1 h1 => ?_)
  obtain ⟨rfl, hT1⟩ := h1
  have hM1 := hM.congr (w' := w1) (fun j a b => hT1.2 j a)
  obtain ⟨⟨pc9, ra9, re9, fm9, se9, th9, h53⟩, -⟩ := id hM1
  refine j_aload_n (pc' := 879) (z := 53) dL_law_878 rfl rfl ?_
  refine j_aload_n (pc' := 880) (z := 1001) dL_law_879 rfl rfl ?_
  refine j_iload (pc' := 882) (z := i) dL_law_880 rfl rfl ?_
  refine j_iconst (pc' := 883) dL_law_882 rfl ?_
  refine j_iadd (pc' := 884) dL_law_883 rfl ?_
  refine j_xld (pc' := 885) (f := scr) (n := len) dL_law_884 rfl hX (by omega) (by omega) ?_
  refine j_aload_n (pc' := 886) (z := 1001) dL_law_885 rfl rfl ?_
  refine j_iload (pc' := 888) (z := i) dL_law_886 rfl rfl ?_
  refine j_iconst (pc' := 889) dL_law_888 rfl ?_
  refine j_iadd (pc' := 890) dL_law_889 rfl ?_
  refine j_xld (pc' := 891) (f := scr) (n := len) dL_law_890 rfl hX (by omega) (by omega) ?_
  refine j_callV (pc' := 894) (q := 53) (as := [aI (scr (i + 1)), aI (scr (i + 2))]) (rest := [aL _]) dL_law_891 rfl s_Law_112 (c_Mod_oneByOne hM1 hI.1 hI.2.1 hI.2.2.1 hI.2.2.2.1 hI.2.2.2.2.1 (hsc _) (hsc _)) (by omega) h53 rfl rfl rfl (rmL hcs rfl) (fun r2 w2 h2 => ?_)
  obtain ⟨rfl, hT2⟩ := h2
  refine j_lcmpE (pc' := 895) dL_law_894 rfl ?_
  refine j_if_eq (tgt := 1708) (pc' := 898) dL_law_895 (by decide) rfl (by omega) (fun _ => ?_) (fun h => absurd rfl h)
  refine j_wide (k9 := cells + 1) (n9 := slots + 6) (Nat.le_succ _) (Nat.le_add_right _ _) ?_
  exact kont _ _ _ _ _ _ _ _ _ _ ⟨hT1.1.congr (fun j a => hT2.2 j (Or.inl a)), hT2.1, f0, by rw [hT2.2 67 (Or.inr (by omega)), hT1.2 67 (by omega)]; exact hf⟩ hI
set_option maxRecDepth 100000 in
set_option maxHeartbeats 4000000 in
theorem lc_22 {l : Launch} {ad : Nat → Nat} {G : JG} {X : List (Nat × Nat × (Int → Int))} {Z : JZ} {cells slots len : Nat} {scr : Int → Int} {i : Int} {w : AW} {D Di : Int → Int → Int} {n mi hi ni mj : Int} {sh E : Int → Int → Int} (hl9 : l.stackTraces = false) (hX : (1001, len, scr) ∈ X) (hlen : len ≤ 3072) (hi9 : 0 ≤ i ∧ i + 6 ≤ len) (hsc : ∀ j, inI (scr j)) (hcs : cells + 1 ≤ 601024 ∧ slots + 6 ≤ 7293034) (hW : LW w D n mi hi Di ni mj sh E) (hI : Inv D n mi hi Di ni mj sh E) (kont : ∀ (D Di : Int → Int → Int) (n mi hi ni mj : Int) (sh E : Int → Int → Int) (w : AW), LW w D n mi hi Di ni mj sh E → Inv D n mi hi Di ni mj sh E → J l m_Law_law ad G X false Z 68 (cells + 1) (slots + 6) 1708 [some (aR 1001), some (aR 0), some (aR 53), some (aR 67), some (aI i), none, none, none] [] w) : J l m_Law_law ad G X false Z 68 cells slots 900 [some (aR 1001), some (aR 0), some (aR 53), some (aR 67), some (aI i), none, none, none] [] w := by
  have hB := hI.1
  obtain ⟨hC, hM, f0, hf⟩ := hW
  have hO := hC.1
  refine j_aload_n (pc' := 901) (z := 0) dL_law_900 rfl rfl ?_
  refine j_aload_n (pc' := 902) (z := 1001) dL_law_901 rfl rfl ?_
  refine j_iload (pc' := 904) (z := i) dL_law_902 rfl rfl ?_
  refine j_iconst (pc' := 905) dL_law_904 rfl ?_
  refine j_iadd (pc' := 906) dL_law_905 rfl ?_
  refine j_xld (pc' := 907) (f := scr) (n := len) dL_law_906 rfl hX (by omega) (by omega) ?_
  refine j_callV (pc' := 910) (q := 0) (as := [aI (scr (i + 1))]) (rest := []) dL_law_907 rfl s_Law_113 (c_Top_worse hC hI.1 hI.2.1 hI.2.2.1 hI.2.2.2.1 (hsc _)) (by omega) hO rfl rfl rfl (rmL hcs rfl) (fun r1 w1 h1 => ?_)
  obtain ⟨rfl, hT1⟩ := h1
  have hM1 := hM.congr (w' := w1) (fun j a b => hT1.2 j a)
  obtain ⟨⟨pc9, ra9, re9, fm9, se9, th9, h53⟩, -⟩ := id hM1
  refine j_aload_n (pc' := 911) (z := 53) dL_law_910 rfl rfl ?_
  refine j_aload_n (pc' := 912) (z := 1001) dL_law_911 rfl rfl ?_
  refine j_iload (pc' := 914) (z := i) dL_law_912 rfl rfl ?_
  refine j_iconst (pc' := 915) dL_law_914 rfl ?_
  refine j_iadd (pc' := 916) dL_law_915 rfl ?_
  refine j_xld (pc' := 917) (f := scr) (n := len) dL_law_916 rfl hX (by omega) (by omega) ?_
  refine j_callV (pc' := 920) (q := 53) (as := [aI (scr (i + 1))]) (rest := [aI _]) dL_law_917 rfl s_Law_116 (c_Mod_worse hM1 hI.1 hI.2.1 hI.2.2.1 hI.2.2.2.1 hI.2.2.2.2.1 (hsc _)) (by omega) h53 rfl rfl rfl (rmL hcs rfl) (fun r2 w2 h2 => ?_)
  obtain ⟨rfl, hT2⟩ := h2
  refine j_icmpE (tgt := 1708) dL_law_920 (by decide) ?_
  refine j_wide (k9 := cells + 1) (n9 := slots + 6) (Nat.le_succ _) (Nat.le_add_right _ _) ?_
  exact kont _ _ _ _ _ _ _ _ _ _ ⟨hT1.1.congr (fun j a => hT2.2 j (Or.inl a)), hT2.1, f0, by rw [hT2.2 67 (Or.inr (by omega)), hT1.2 67 (by omega)]; exact hf⟩ hI
set_option maxRecDepth 100000 in
set_option maxHeartbeats 4000000 in
theorem lc_23 {l : Launch} {ad : Nat → Nat} {G : JG} {X : List (Nat × Nat × (Int → Int))} {Z : JZ} {cells slots len : Nat} {scr : Int → Int} {i : Int} {w : AW} {D Di : Int → Int → Int} {n mi hi ni mj : Int} {sh E : Int → Int → Int} (hl9 : l.stackTraces = false) (hX : (1001, len, scr) ∈ X) (hlen : len ≤ 3072) (hi9 : 0 ≤ i ∧ i + 6 ≤ len) (hsc : ∀ j, inI (scr j)) (hcs : cells + 1 ≤ 601024 ∧ slots + 6 ≤ 7293034) (hW : LW w D n mi hi Di ni mj sh E) (hI : Inv D n mi hi Di ni mj sh E) (kont : ∀ (D Di : Int → Int → Int) (n mi hi ni mj : Int) (sh E : Int → Int → Int) (w : AW), LW w D n mi hi Di ni mj sh E → Inv D n mi hi Di ni mj sh E → J l m_Law_law ad G X false Z 68 (cells + 1) (slots + 6) 1708 [some (aR 1001), some (aR 0), some (aR 53), some (aR 67), some (aI i), none, none, none] [] w) : J l m_Law_law ad G X false Z 68 cells slots 925 [some (aR 1001), some (aR 0), some (aR 53), some (aR 67), some (aI i), none, none, none] [] w := by
  have hB := hI.1
  obtain ⟨hC, hM, f0, hf⟩ := hW
  have hO := hC.1
  refine j_aload_n (pc' := 926) (z := 0) dL_law_925 rfl rfl ?_
  refine j_aload_n (pc' := 927) (z := 1001) dL_law_926 rfl rfl ?_
  refine j_iload (pc' := 929) (z := i) dL_law_927 rfl rfl ?_
  refine j_iconst (pc' := 930) dL_law_929 rfl ?_
  refine j_iadd (pc' := 931) dL_law_930 rfl ?_
  refine j_xld (pc' := 932) (f := scr) (n := len) dL_law_931 rfl hX (by omega) (by omega) ?_
  refine j_aload_n (pc' := 933) (z := 1001) dL_law_932 rfl rfl ?_
  refine j_iload (pc' := 935) (z := i) dL_law_933 rfl rfl ?_
  refine j_iconst (pc' := 936) dL_law_935 rfl ?_
  refine j_iadd (pc' := 937) dL_law_936 rfl ?_
  refine j_xld (pc' := 938) (f := scr) (n := len) dL_law_937 rfl hX (by omega) (by omega) ?_
  refine j_callV (pc' := 941) (q := 0) (as := [aI (scr (i + 1)), aI (scr (i + 2))]) (rest := []) dL_law_938 rfl s_Law_117 (c_Top_gone hC hI.1 hI.2.1 hI.2.2.1 hI.2.2.2.1 (hsc _) (hsc _)) (by omega) hO rfl rfl rfl (rmL hcs rfl) (fun r1 w1 h1 => ?_)
  obtain ⟨rfl, hT1⟩ := h1
  have hM1 := hM.congr (w' := w1) (fun j a b => hT1.2 j a)
  obtain ⟨⟨pc9, ra9, re9, fm9, se9, th9, h53⟩, -⟩ := id hM1
  refine j_aload_n (pc' := 942) (z := 53) dL_law_941 rfl rfl ?_
  refine j_aload_n (pc' := 943) (z := 1001) dL_law_942 rfl rfl ?_
  refine j_iload (pc' := 945) (z := i) dL_law_943 rfl rfl ?_
  refine j_iconst (pc' := 946) dL_law_945 rfl ?_
  refine j_iadd (pc' := 947) dL_law_946 rfl ?_
  refine j_xld (pc' := 948) (f := scr) (n := len) dL_law_947 rfl hX (by omega) (by omega) ?_
  refine j_aload_n (pc' := 949) (z := 1001) dL_law_948 rfl rfl ?_
  refine j_iload (pc' := 951) (z := i) dL_law_949 rfl rfl ?_
  refine j_iconst (pc' := 952) dL_law_951 rfl ?_
  refine j_iadd (pc' := 953) dL_law_952 rfl ?_
  refine j_xld (pc' := 954) (f := scr) (n := len) dL_law_953 rfl hX (by omega) (by omega) ?_
  refine j_callV (pc' := 957) (q := 53) (as := [aI (scr (i + 1)), aI (scr (i + 2))]) (rest := [aI _]) dL_law_954 rfl s_Law_120 (c_Mod_gone hM1 hI.1 hI.2.1 hI.2.2.1 hI.2.2.2.1 hI.2.2.2.2.1 (hsc _) (hsc _)) (by omega) h53 rfl rfl rfl (rmL hcs rfl) (fun r2 w2 h2 => ?_)
  obtain ⟨rfl, hT2⟩ := h2
  refine j_icmpE (tgt := 1708) dL_law_957 (by decide) ?_
  refine j_wide (k9 := cells + 1) (n9 := slots + 6) (Nat.le_succ _) (Nat.le_add_right _ _) ?_
  exact kont _ _ _ _ _ _ _ _ _ _ ⟨hT1.1.congr (fun j a => hT2.2 j (Or.inl a)), hT2.1, f0, by rw [hT2.2 67 (Or.inr (by omega)), hT1.2 67 (by omega)]; exact hf⟩ hI
set_option maxRecDepth 100000 in
set_option maxHeartbeats 4000000 in
theorem lc_24 {l : Launch} {ad : Nat → Nat} {G : JG} {X : List (Nat × Nat × (Int → Int))} {Z : JZ} {cells slots len : Nat} {scr : Int → Int} {i : Int} {w : AW} {D Di : Int → Int → Int} {n mi hi ni mj : Int} {sh E : Int → Int → Int} (hl9 : l.stackTraces = false) (hX : (1001, len, scr) ∈ X) (hlen : len ≤ 3072) (hi9 : 0 ≤ i ∧ i + 6 ≤ len) (hsc : ∀ j, inI (scr j)) (hcs : cells + 1 ≤ 601024 ∧ slots + 6 ≤ 7293034) (hW : LW w D n mi hi Di ni mj sh E) (hI : Inv D n mi hi Di ni mj sh E) (kont : ∀ (D Di : Int → Int → Int) (n mi hi ni mj : Int) (sh E : Int → Int → Int) (w : AW), LW w D n mi hi Di ni mj sh E → Inv D n mi hi Di ni mj sh E → J l m_Law_law ad G X false Z 68 (cells + 1) (slots + 6) 1708 [some (aR 1001), some (aR 0), some (aR 53), some (aR 67), some (aI i), none, none, none] [] w) : J l m_Law_law ad G X false Z 68 cells slots 962 [some (aR 1001), some (aR 0), some (aR 53), some (aR 67), some (aI i), none, none, none] [] w := by
  have hB := hI.1
  obtain ⟨hC, hM, f0, hf⟩ := hW
  have hO := hC.1
  refine j_aload_n (pc' := 963) (z := 0) dL_law_962 rfl rfl ?_
  refine j_aload_n (pc' := 964) (z := 1001) dL_law_963 rfl rfl ?_
  refine j_iload (pc' := 966) (z := i) dL_law_964 rfl rfl ?_
  refine j_iconst (pc' := 967) dL_law_966 rfl ?_
  refine j_iadd (pc' := 968) dL_law_967 rfl ?_
  refine j_xld (pc' := 969) (f := scr) (n := len) dL_law_968 rfl hX (by omega) (by omega) ?_
  refine j_aload_n (pc' := 970) (z := 1001) dL_law_969 rfl rfl ?_
  refine j_iload (pc' := 972) (z := i) dL_law_970 rfl rfl ?_
  refine j_iconst (pc' := 973) dL_law_972 rfl ?_
  refine j_iadd (pc' := 974) dL_law_973 rfl ?_
  refine j_xld (pc' := 975) (f := scr) (n := len) dL_law_974 rfl hX (by omega) (by omega) ?_
  refine j_aload_n (pc' := 976) (z := 1001) dL_law_975 rfl rfl ?_
  refine j_iload (pc' := 978) (z := i) dL_law_976 rfl rfl ?_
  refine j_iconst (pc' := 979) dL_law_978 rfl ?_
  refine j_iadd (pc' := 980) dL_law_979 rfl ?_
  refine j_xld (pc' := 981) (f := scr) (n := len) dL_law_980 rfl hX (by omega) (by omega) ?_
  refine j_aload_n (pc' := 982) (z := 1001) dL_law_981 rfl rfl ?_
  refine j_iload (pc' := 984) (z := i) dL_law_982 rfl rfl ?_
  refine j_iconst (pc' := 985) dL_law_984 rfl ?_
  refine j_iadd (pc' := 986) dL_law_985 rfl ?_
  refine j_xld (pc' := 987) (f := scr) (n := len) dL_law_986 rfl hX (by omega) (by omega) ?_
  refine j_callV (pc' := 990) (q := 0) (as := [aI (scr (i + 1)), aI (scr (i + 2)), aI (scr (i + 3)), aI (scr (i + 4))]) (rest := []) dL_law_987 rfl s_Law_121 (c_Top_ear hC hI.1 hI.2.1 hI.2.2.1 hI.2.2.2.1 (hsc _) (hsc _) (hsc _) (hsc _)) (by omega) hO rfl rfl rfl (rmL hcs rfl) (fun r1 w1 h1 => ?_)
  obtain ⟨rfl, hT1⟩ := h1
  have hM1 := hM.congr (w' := w1) (fun j a b => hT1.2 j a)
  obtain ⟨⟨pc9, ra9, re9, fm9, se9, th9, h53⟩, -⟩ := id hM1
  refine j_aload_n (pc' := 991) (z := 53) dL_law_990 rfl rfl ?_
  refine j_aload_n (pc' := 992) (z := 1001) dL_law_991 rfl rfl ?_
  refine j_iload (pc' := 994) (z := i) dL_law_992 rfl rfl ?_
  refine j_iconst (pc' := 995) dL_law_994 rfl ?_
  refine j_iadd (pc' := 996) dL_law_995 rfl ?_
  refine j_xld (pc' := 997) (f := scr) (n := len) dL_law_996 rfl hX (by omega) (by omega) ?_
  refine j_aload_n (pc' := 998) (z := 1001) dL_law_997 rfl rfl ?_
  refine j_iload (pc' := 1000) (z := i) dL_law_998 rfl rfl ?_
  refine j_iconst (pc' := 1001) dL_law_1000 rfl ?_
  refine j_iadd (pc' := 1002) dL_law_1001 rfl ?_
  refine j_xld (pc' := 1003) (f := scr) (n := len) dL_law_1002 rfl hX (by omega) (by omega) ?_
  refine j_aload_n (pc' := 1004) (z := 1001) dL_law_1003 rfl rfl ?_
  refine j_iload (pc' := 1006) (z := i) dL_law_1004 rfl rfl ?_
  refine j_iconst (pc' := 1007) dL_law_1006 rfl ?_
  refine j_iadd (pc' := 1008) dL_law_1007 rfl ?_
  refine j_xld (pc' := 1009) (f := scr) (n := len) dL_law_1008 rfl hX (by omega) (by omega) ?_
  refine j_aload_n (pc' := 1010) (z := 1001) dL_law_1009 rfl rfl ?_
  refine j_iload (pc' := 1012) (z := i) dL_law_1010 rfl rfl ?_
  refine j_iconst (pc' := 1013) dL_law_1012 rfl ?_
  refine j_iadd (pc' := 1014) dL_law_1013 rfl ?_
  refine j_xld (pc' := 1015) (f := scr) (n := len) dL_law_1014 rfl hX (by omega) (by omega) ?_
  refine j_callV (pc' := 1018) (q := 53) (as := [aI (scr (i + 1)), aI (scr (i + 2)), aI (scr (i + 3)), aI (scr (i + 4))]) (rest := [aL _]) dL_law_1015 rfl s_Law_125 (c_Mod_ear hM1 hI.1 hI.2.1 hI.2.2.1 hI.2.2.2.1 hI.2.2.2.2.1 (hsc _) (hsc _) (hsc _) (hsc _)) (by omega) h53 rfl rfl rfl (rmL hcs rfl) (fun r2 w2 h2 => ?_)
  obtain ⟨rfl, hT2⟩ := h2
  refine j_lcmpE (pc' := 1019) dL_law_1018 rfl ?_
  refine j_if_eq (tgt := 1708) (pc' := 1022) dL_law_1019 (by decide) rfl (by omega) (fun _ => ?_) (fun h => absurd rfl h)
  refine j_wide (k9 := cells + 1) (n9 := slots + 6) (Nat.le_succ _) (Nat.le_add_right _ _) ?_
  exact kont _ _ _ _ _ _ _ _ _ _ ⟨hT1.1.congr (fun j a => hT2.2 j (Or.inl a)), hT2.1, f0, by rw [hT2.2 67 (Or.inr (by omega)), hT1.2 67 (by omega)]; exact hf⟩ hI
set_option maxRecDepth 100000 in
set_option maxHeartbeats 4000000 in
theorem lc_25 {l : Launch} {ad : Nat → Nat} {G : JG} {X : List (Nat × Nat × (Int → Int))} {Z : JZ} {cells slots len : Nat} {scr : Int → Int} {i : Int} {w : AW} {D Di : Int → Int → Int} {n mi hi ni mj : Int} {sh E : Int → Int → Int} (hl9 : l.stackTraces = false) (hX : (1001, len, scr) ∈ X) (hlen : len ≤ 3072) (hi9 : 0 ≤ i ∧ i + 6 ≤ len) (hsc : ∀ j, inI (scr j)) (hcs : cells + 1 ≤ 601024 ∧ slots + 6 ≤ 7293034) (hW : LW w D n mi hi Di ni mj sh E) (hI : Inv D n mi hi Di ni mj sh E) (kont : ∀ (D Di : Int → Int → Int) (n mi hi ni mj : Int) (sh E : Int → Int → Int) (w : AW), LW w D n mi hi Di ni mj sh E → Inv D n mi hi Di ni mj sh E → J l m_Law_law ad G X false Z 68 (cells + 1) (slots + 6) 1708 [some (aR 1001), some (aR 0), some (aR 53), some (aR 67), some (aI i), none, none, none] [] w) : J l m_Law_law ad G X false Z 68 cells slots 1024 [some (aR 1001), some (aR 0), some (aR 53), some (aR 67), some (aI i), none, none, none] [] w := by
  have hB := hI.1
  obtain ⟨hC, hM, f0, hf⟩ := hW
  have hO := hC.1
  refine j_aload_n (pc' := 1025) (z := 0) dL_law_1024 rfl rfl ?_
  refine j_aload_n (pc' := 1026) (z := 1001) dL_law_1025 rfl rfl ?_
  refine j_iload (pc' := 1028) (z := i) dL_law_1026 rfl rfl ?_
  refine j_iconst (pc' := 1029) dL_law_1028 rfl ?_
  refine j_iadd (pc' := 1030) dL_law_1029 rfl ?_
  refine j_xld (pc' := 1031) (f := scr) (n := len) dL_law_1030 rfl hX (by omega) (by omega) ?_
  refine j_aload_n (pc' := 1032) (z := 1001) dL_law_1031 rfl rfl ?_
  refine j_iload (pc' := 1034) (z := i) dL_law_1032 rfl rfl ?_
  refine j_iconst (pc' := 1035) dL_law_1034 rfl ?_
  refine j_iadd (pc' := 1036) dL_law_1035 rfl ?_
  refine j_xld (pc' := 1037) (f := scr) (n := len) dL_law_1036 rfl hX (by omega) (by omega) ?_
  refine j_callV (pc' := 1040) (q := 0) (as := [aI (scr (i + 1)), aI (scr (i + 2))]) (rest := []) dL_law_1037 rfl s_Law_126 (c_Top_likeliest hC hI.1 hI.2.1 hI.2.2.1 hI.2.2.2.1 (hsc _) (hsc _)) (by omega) hO rfl rfl rfl (rmL hcs rfl) (fun r1 w1 h1 => ?_)
  obtain ⟨rfl, hT1⟩ := h1
  have hM1 := hM.congr (w' := w1) (fun j a b => hT1.2 j a)
  obtain ⟨⟨pc9, ra9, re9, fm9, se9, th9, h53⟩, -⟩ := id hM1
  refine j_aload_n (pc' := 1041) (z := 53) dL_law_1040 rfl rfl ?_
  refine j_aload_n (pc' := 1042) (z := 1001) dL_law_1041 rfl rfl ?_
  refine j_iload (pc' := 1044) (z := i) dL_law_1042 rfl rfl ?_
  refine j_iconst (pc' := 1045) dL_law_1044 rfl ?_
  refine j_iadd (pc' := 1046) dL_law_1045 rfl ?_
  refine j_xld (pc' := 1047) (f := scr) (n := len) dL_law_1046 rfl hX (by omega) (by omega) ?_
  refine j_aload_n (pc' := 1048) (z := 1001) dL_law_1047 rfl rfl ?_
  refine j_iload (pc' := 1050) (z := i) dL_law_1048 rfl rfl ?_
  refine j_iconst (pc' := 1051) dL_law_1050 rfl ?_
  refine j_iadd (pc' := 1052) dL_law_1051 rfl ?_
  refine j_xld (pc' := 1053) (f := scr) (n := len) dL_law_1052 rfl hX (by omega) (by omega) ?_
  refine j_callV (pc' := 1056) (q := 53) (as := [aI (scr (i + 1)), aI (scr (i + 2))]) (rest := [aI _]) dL_law_1053 rfl s_Law_129 (c_Mod_likeliest hM1 hI.1 hI.2.1 hI.2.2.1 hI.2.2.2.1 hI.2.2.2.2.1 (hsc _) (hsc _)) (by omega) h53 rfl rfl rfl (rmL hcs rfl) (fun r2 w2 h2 => ?_)
  obtain ⟨rfl, hT2⟩ := h2
  refine j_icmpE (tgt := 1708) dL_law_1056 (by decide) ?_
  refine j_wide (k9 := cells + 1) (n9 := slots + 6) (Nat.le_succ _) (Nat.le_add_right _ _) ?_
  exact kont _ _ _ _ _ _ _ _ _ _ ⟨hT1.1.congr (fun j a => hT2.2 j (Or.inl a)), hT2.1, f0, by rw [hT2.2 67 (Or.inr (by omega)), hT1.2 67 (by omega)]; exact hf⟩ hI
set_option maxRecDepth 100000 in
set_option maxHeartbeats 4000000 in
theorem lc_26 {l : Launch} {ad : Nat → Nat} {G : JG} {X : List (Nat × Nat × (Int → Int))} {Z : JZ} {cells slots len : Nat} {scr : Int → Int} {i : Int} {w : AW} {D Di : Int → Int → Int} {n mi hi ni mj : Int} {sh E : Int → Int → Int} (hl9 : l.stackTraces = false) (hX : (1001, len, scr) ∈ X) (hlen : len ≤ 3072) (hi9 : 0 ≤ i ∧ i + 6 ≤ len) (hsc : ∀ j, inI (scr j)) (hcs : cells + 1 ≤ 601024 ∧ slots + 6 ≤ 7293034) (hW : LW w D n mi hi Di ni mj sh E) (hI : Inv D n mi hi Di ni mj sh E) (kont : ∀ (D Di : Int → Int → Int) (n mi hi ni mj : Int) (sh E : Int → Int → Int) (w : AW), LW w D n mi hi Di ni mj sh E → Inv D n mi hi Di ni mj sh E → J l m_Law_law ad G X false Z 68 (cells + 1) (slots + 6) 1708 [some (aR 1001), some (aR 0), some (aR 53), some (aR 67), some (aI i), none, none, none] [] w) : J l m_Law_law ad G X false Z 68 cells slots 1061 [some (aR 1001), some (aR 0), some (aR 53), some (aR 67), some (aI i), none, none, none] [] w := by
  have hB := hI.1
  obtain ⟨hC, hM, f0, hf⟩ := hW
  have hO := hC.1
  refine j_aload_n (pc' := 1062) (z := 0) dL_law_1061 rfl rfl ?_
  refine j_aload_n (pc' := 1063) (z := 1001) dL_law_1062 rfl rfl ?_
  refine j_iload (pc' := 1065) (z := i) dL_law_1063 rfl rfl ?_
  refine j_iconst (pc' := 1066) dL_law_1065 rfl ?_
  refine j_iadd (pc' := 1067) dL_law_1066 rfl ?_
  refine j_xld (pc' := 1068) (f := scr) (n := len) dL_law_1067 rfl hX (by omega) (by omega) ?_
  refine j_callV (pc' := 1071) (q := 0) (as := [aI (scr (i + 1))]) (rest := []) dL_law_1068 rfl s_Law_130 (c_Top_mends hC hI.1 hI.2.1 hI.2.2.1 hI.2.2.2.1 (hsc _)) (by omega) hO rfl rfl rfl (rmL hcs rfl) (fun r1 w1 h1 => ?_)
  obtain ⟨rfl, hT1⟩ := h1
  have hM1 := hM.congr (w' := w1) (fun j a b => hT1.2 j a)
  obtain ⟨⟨pc9, ra9, re9, fm9, se9, th9, h53⟩, -⟩ := id hM1
  refine j_aload_n (pc' := 1072) (z := 53) dL_law_1071 rfl rfl ?_
  refine j_aload_n (pc' := 1073) (z := 1001) dL_law_1072 rfl rfl ?_
  refine j_iload (pc' := 1075) (z := i) dL_law_1073 rfl rfl ?_
  refine j_iconst (pc' := 1076) dL_law_1075 rfl ?_
  refine j_iadd (pc' := 1077) dL_law_1076 rfl ?_
  refine j_xld (pc' := 1078) (f := scr) (n := len) dL_law_1077 rfl hX (by omega) (by omega) ?_
  refine j_callV (pc' := 1081) (q := 53) (as := [aI (scr (i + 1))]) (rest := [aI _]) dL_law_1078 rfl s_Law_133 (c_Mod_mends hM1 hI.1 hI.2.1 hI.2.2.1 hI.2.2.2.1 hI.2.2.2.2.1 (hsc _)) (by omega) h53 rfl rfl rfl (rmL hcs rfl) (fun r2 w2 h2 => ?_)
  obtain ⟨rfl, hT2⟩ := h2
  refine j_icmpE (tgt := 1708) dL_law_1081 (by decide) ?_
  refine j_wide (k9 := cells + 1) (n9 := slots + 6) (Nat.le_succ _) (Nat.le_add_right _ _) ?_
  exact kont _ _ _ _ _ _ _ _ _ _ ⟨hT1.1.congr (fun j a => hT2.2 j (Or.inl a)), hT2.1, f0, by rw [hT2.2 67 (Or.inr (by omega)), hT1.2 67 (by omega)]; exact hf⟩ hI
set_option maxRecDepth 100000 in
set_option maxHeartbeats 4000000 in
theorem lc_27 {l : Launch} {ad : Nat → Nat} {G : JG} {X : List (Nat × Nat × (Int → Int))} {Z : JZ} {cells slots len : Nat} {scr : Int → Int} {i : Int} {w : AW} {D Di : Int → Int → Int} {n mi hi ni mj : Int} {sh E : Int → Int → Int} (hl9 : l.stackTraces = false) (hX : (1001, len, scr) ∈ X) (hlen : len ≤ 3072) (hi9 : 0 ≤ i ∧ i + 6 ≤ len) (hsc : ∀ j, inI (scr j)) (hcs : cells + 1 ≤ 601024 ∧ slots + 6 ≤ 7293034) (hW : LW w D n mi hi Di ni mj sh E) (hI : Inv D n mi hi Di ni mj sh E) (kont : ∀ (D Di : Int → Int → Int) (n mi hi ni mj : Int) (sh E : Int → Int → Int) (w : AW), LW w D n mi hi Di ni mj sh E → Inv D n mi hi Di ni mj sh E → J l m_Law_law ad G X false Z 68 (cells + 1) (slots + 6) 1708 [some (aR 1001), some (aR 0), some (aR 53), some (aR 67), some (aI i), none, none, none] [] w) : J l m_Law_law ad G X false Z 68 cells slots 1086 [some (aR 1001), some (aR 0), some (aR 53), some (aR 67), some (aI i), none, none, none] [] w := by
  have hB := hI.1
  obtain ⟨hC, hM, f0, hf⟩ := hW
  have hO := hC.1
  refine j_aload_n (pc' := 1087) (z := 0) dL_law_1086 rfl rfl ?_
  refine j_aload_n (pc' := 1088) (z := 1001) dL_law_1087 rfl rfl ?_
  refine j_iload (pc' := 1090) (z := i) dL_law_1088 rfl rfl ?_
  refine j_iconst (pc' := 1091) dL_law_1090 rfl ?_
  refine j_iadd (pc' := 1092) dL_law_1091 rfl ?_
  refine j_xld (pc' := 1093) (f := scr) (n := len) dL_law_1092 rfl hX (by omega) (by omega) ?_
  refine j_aload_n (pc' := 1094) (z := 1001) dL_law_1093 rfl rfl ?_
  refine j_iload (pc' := 1096) (z := i) dL_law_1094 rfl rfl ?_
  refine j_iconst (pc' := 1097) dL_law_1096 rfl ?_
  refine j_iadd (pc' := 1098) dL_law_1097 rfl ?_
  refine j_xld (pc' := 1099) (f := scr) (n := len) dL_law_1098 rfl hX (by omega) (by omega) ?_
  refine j_aload_n (pc' := 1100) (z := 1001) dL_law_1099 rfl rfl ?_
  refine j_iload (pc' := 1102) (z := i) dL_law_1100 rfl rfl ?_
  refine j_iconst (pc' := 1103) dL_law_1102 rfl ?_
  refine j_iadd (pc' := 1104) dL_law_1103 rfl ?_
  refine j_xld (pc' := 1105) (f := scr) (n := len) dL_law_1104 rfl hX (by omega) (by omega) ?_
  refine j_aload_n (pc' := 1106) (z := 1001) dL_law_1105 rfl rfl ?_
  refine j_iload (pc' := 1108) (z := i) dL_law_1106 rfl rfl ?_
  refine j_iconst (pc' := 1109) dL_law_1108 rfl ?_
  refine j_iadd (pc' := 1110) dL_law_1109 rfl ?_
  refine j_xld (pc' := 1111) (f := scr) (n := len) dL_law_1110 rfl hX (by omega) (by omega) ?_
  refine j_callV (pc' := 1114) (q := 0) (as := [aI (scr (i + 1)), aI (scr (i + 2)), aI (scr (i + 3)), aI (scr (i + 4))]) (rest := []) dL_law_1111 rfl s_Law_134 (c_Top_mechanic hC hI.1 hI.2.1 hI.2.2.1 hI.2.2.2.1 (hsc _) (hsc _) (hsc _) (hsc _)) (by omega) hO rfl rfl rfl (rmL hcs rfl) (fun r1 w1 h1 => ?_)
  obtain ⟨rfl, hT1⟩ := h1
  have hM1 := hM.congr (w' := w1) (fun j a b => hT1.2 j a)
  obtain ⟨⟨pc9, ra9, re9, fm9, se9, th9, h53⟩, -⟩ := id hM1
  refine j_aload_n (pc' := 1115) (z := 53) dL_law_1114 rfl rfl ?_
  refine j_aload_n (pc' := 1116) (z := 1001) dL_law_1115 rfl rfl ?_
  refine j_iload (pc' := 1118) (z := i) dL_law_1116 rfl rfl ?_
  refine j_iconst (pc' := 1119) dL_law_1118 rfl ?_
  refine j_iadd (pc' := 1120) dL_law_1119 rfl ?_
  refine j_xld (pc' := 1121) (f := scr) (n := len) dL_law_1120 rfl hX (by omega) (by omega) ?_
  refine j_aload_n (pc' := 1122) (z := 1001) dL_law_1121 rfl rfl ?_
  refine j_iload (pc' := 1124) (z := i) dL_law_1122 rfl rfl ?_
  refine j_iconst (pc' := 1125) dL_law_1124 rfl ?_
  refine j_iadd (pc' := 1126) dL_law_1125 rfl ?_
  refine j_xld (pc' := 1127) (f := scr) (n := len) dL_law_1126 rfl hX (by omega) (by omega) ?_
  refine j_aload_n (pc' := 1128) (z := 1001) dL_law_1127 rfl rfl ?_
  refine j_iload (pc' := 1130) (z := i) dL_law_1128 rfl rfl ?_
  refine j_iconst (pc' := 1131) dL_law_1130 rfl ?_
  refine j_iadd (pc' := 1132) dL_law_1131 rfl ?_
  refine j_xld (pc' := 1133) (f := scr) (n := len) dL_law_1132 rfl hX (by omega) (by omega) ?_
  refine j_aload_n (pc' := 1134) (z := 1001) dL_law_1133 rfl rfl ?_
  refine j_iload (pc' := 1136) (z := i) dL_law_1134 rfl rfl ?_
  refine j_iconst (pc' := 1137) dL_law_1136 rfl ?_
  refine j_iadd (pc' := 1138) dL_law_1137 rfl ?_
  refine j_xld (pc' := 1139) (f := scr) (n := len) dL_law_1138 rfl hX (by omega) (by omega) ?_
  refine j_callV (pc' := 1142) (q := 53) (as := [aI (scr (i + 1)), aI (scr (i + 2)), aI (scr (i + 3)), aI (scr (i + 4))]) (rest := [aI _]) dL_law_1139 rfl s_Law_138 (c_Mod_mechanic hM1 hI.1 hI.2.1 hI.2.2.1 hI.2.2.2.1 hI.2.2.2.2.1 (hsc _) (hsc _) (hsc _) (hsc _)) (by omega) h53 rfl rfl rfl (rmL hcs rfl) (fun r2 w2 h2 => ?_)
  obtain ⟨rfl, hT2⟩ := h2
  refine j_icmpE (tgt := 1708) dL_law_1142 (by decide) ?_
  refine j_wide (k9 := cells + 1) (n9 := slots + 6) (Nat.le_succ _) (Nat.le_add_right _ _) ?_
  exact kont _ _ _ _ _ _ _ _ _ _ ⟨hT1.1.congr (fun j a => hT2.2 j (Or.inl a)), hT2.1, f0, by rw [hT2.2 67 (Or.inr (by omega)), hT1.2 67 (by omega)]; exact hf⟩ hI
set_option maxRecDepth 100000 in
set_option maxHeartbeats 4000000 in
theorem lc_28 {l : Launch} {ad : Nat → Nat} {G : JG} {X : List (Nat × Nat × (Int → Int))} {Z : JZ} {cells slots len : Nat} {scr : Int → Int} {i : Int} {w : AW} {D Di : Int → Int → Int} {n mi hi ni mj : Int} {sh E : Int → Int → Int} (hl9 : l.stackTraces = false) (hX : (1001, len, scr) ∈ X) (hlen : len ≤ 3072) (hi9 : 0 ≤ i ∧ i + 6 ≤ len) (hsc : ∀ j, inI (scr j)) (hcs : cells + 1 ≤ 601024 ∧ slots + 6 ≤ 7293034) (hW : LW w D n mi hi Di ni mj sh E) (hI : Inv D n mi hi Di ni mj sh E) (kont : ∀ (D Di : Int → Int → Int) (n mi hi ni mj : Int) (sh E : Int → Int → Int) (w : AW), LW w D n mi hi Di ni mj sh E → Inv D n mi hi Di ni mj sh E → J l m_Law_law ad G X false Z 68 (cells + 1) (slots + 6) 1708 [some (aR 1001), some (aR 0), some (aR 53), some (aR 67), some (aI i), none, none, none] [] w) : J l m_Law_law ad G X false Z 68 cells slots 1147 [some (aR 1001), some (aR 0), some (aR 53), some (aR 67), some (aI i), none, none, none] [] w := by
  have hB := hI.1
  obtain ⟨hC, hM, f0, hf⟩ := hW
  have hO := hC.1
  refine j_aload_n (pc' := 1148) (z := 0) dL_law_1147 rfl rfl ?_
  refine j_aload_n (pc' := 1149) (z := 1001) dL_law_1148 rfl rfl ?_
  refine j_iload (pc' := 1151) (z := i) dL_law_1149 rfl rfl ?_
  refine j_iconst (pc' := 1152) dL_law_1151 rfl ?_
  refine j_iadd (pc' := 1153) dL_law_1152 rfl ?_
  refine j_xld (pc' := 1154) (f := scr) (n := len) dL_law_1153 rfl hX (by omega) (by omega) ?_
  refine j_callV (pc' := 1157) (q := 0) (as := [aI (scr (i + 1))]) (rest := []) dL_law_1154 rfl s_Law_139 (c_Top_worth hC hI.1 hI.2.1 hI.2.2.1 hI.2.2.2.1 (hsc _)) (by omega) hO rfl rfl rfl (rmL hcs rfl) (fun r1 w1 h1 => ?_)
  obtain ⟨rfl, hT1⟩ := h1
  have hM1 := hM.congr (w' := w1) (fun j a b => hT1.2 j a)
  obtain ⟨⟨pc9, ra9, re9, fm9, se9, th9, h53⟩, -⟩ := id hM1
  refine j_aload_n (pc' := 1158) (z := 53) dL_law_1157 rfl rfl ?_
  refine j_aload_n (pc' := 1159) (z := 1001) dL_law_1158 rfl rfl ?_
  refine j_iload (pc' := 1161) (z := i) dL_law_1159 rfl rfl ?_
  refine j_iconst (pc' := 1162) dL_law_1161 rfl ?_
  refine j_iadd (pc' := 1163) dL_law_1162 rfl ?_
  refine j_xld (pc' := 1164) (f := scr) (n := len) dL_law_1163 rfl hX (by omega) (by omega) ?_
  refine j_callV (pc' := 1167) (q := 53) (as := [aI (scr (i + 1))]) (rest := [aI _]) dL_law_1164 rfl s_Law_142 (c_Mod_worth hM1 hI.1 hI.2.1 hI.2.2.1 hI.2.2.2.1 hI.2.2.2.2.1 (hsc _)) (by omega) h53 rfl rfl rfl (rmL hcs rfl) (fun r2 w2 h2 => ?_)
  obtain ⟨rfl, hT2⟩ := h2
  refine j_icmpE (tgt := 1708) dL_law_1167 (by decide) ?_
  refine j_wide (k9 := cells + 1) (n9 := slots + 6) (Nat.le_succ _) (Nat.le_add_right _ _) ?_
  exact kont _ _ _ _ _ _ _ _ _ _ ⟨hT1.1.congr (fun j a => hT2.2 j (Or.inl a)), hT2.1, f0, by rw [hT2.2 67 (Or.inr (by omega)), hT1.2 67 (by omega)]; exact hf⟩ hI
set_option maxRecDepth 100000 in
set_option maxHeartbeats 4000000 in
theorem lc_29 {l : Launch} {ad : Nat → Nat} {G : JG} {X : List (Nat × Nat × (Int → Int))} {Z : JZ} {cells slots len : Nat} {scr : Int → Int} {i : Int} {w : AW} {D Di : Int → Int → Int} {n mi hi ni mj : Int} {sh E : Int → Int → Int} (hl9 : l.stackTraces = false) (hX : (1001, len, scr) ∈ X) (hlen : len ≤ 3072) (hi9 : 0 ≤ i ∧ i + 6 ≤ len) (hsc : ∀ j, inI (scr j)) (hcs : cells + 1 ≤ 601024 ∧ slots + 6 ≤ 7293034) (hW : LW w D n mi hi Di ni mj sh E) (hI : Inv D n mi hi Di ni mj sh E) (kont : ∀ (D Di : Int → Int → Int) (n mi hi ni mj : Int) (sh E : Int → Int → Int) (w : AW), LW w D n mi hi Di ni mj sh E → Inv D n mi hi Di ni mj sh E → J l m_Law_law ad G X false Z 68 (cells + 1) (slots + 6) 1708 [some (aR 1001), some (aR 0), some (aR 53), some (aR 67), some (aI i), none, none, none] [] w) : J l m_Law_law ad G X false Z 68 cells slots 1172 [some (aR 1001), some (aR 0), some (aR 53), some (aR 67), some (aI i), none, none, none] [] w := by
  have hB := hI.1
  obtain ⟨hC, hM, f0, hf⟩ := hW
  have hO := hC.1
  refine j_aload_n (pc' := 1173) (z := 0) dL_law_1172 rfl rfl ?_
  refine j_aload_n (pc' := 1174) (z := 1001) dL_law_1173 rfl rfl ?_
  refine j_iload (pc' := 1176) (z := i) dL_law_1174 rfl rfl ?_
  refine j_iconst (pc' := 1177) dL_law_1176 rfl ?_
  refine j_iadd (pc' := 1178) dL_law_1177 rfl ?_
  refine j_xld (pc' := 1179) (f := scr) (n := len) dL_law_1178 rfl hX (by omega) (by omega) ?_
  refine j_aload_n (pc' := 1180) (z := 1001) dL_law_1179 rfl rfl ?_
  refine j_iload (pc' := 1182) (z := i) dL_law_1180 rfl rfl ?_
  refine j_iconst (pc' := 1183) dL_law_1182 rfl ?_
  refine j_iadd (pc' := 1184) dL_law_1183 rfl ?_
  refine j_xld (pc' := 1185) (f := scr) (n := len) dL_law_1184 rfl hX (by omega) (by omega) ?_
  refine j_callV (pc' := 1188) (q := 0) (as := [aI (scr (i + 1)), aI (scr (i + 2))]) (rest := []) dL_law_1185 rfl s_Law_143 (c_Top_quiet hC hI.1 hI.2.1 hI.2.2.1 hI.2.2.2.1 (hsc _) (hsc _)) (by omega) hO rfl rfl rfl (rmL hcs rfl) (fun r1 w1 h1 => ?_)
  obtain ⟨rfl, hT1⟩ := h1
  have hM1 := hM.congr (w' := w1) (fun j a b => hT1.2 j a)
  obtain ⟨⟨pc9, ra9, re9, fm9, se9, th9, h53⟩, -⟩ := id hM1
  refine j_aload_n (pc' := 1189) (z := 53) dL_law_1188 rfl rfl ?_
  refine j_aload_n (pc' := 1190) (z := 1001) dL_law_1189 rfl rfl ?_
  refine j_iload (pc' := 1192) (z := i) dL_law_1190 rfl rfl ?_
  refine j_iconst (pc' := 1193) dL_law_1192 rfl ?_
  refine j_iadd (pc' := 1194) dL_law_1193 rfl ?_
  refine j_xld (pc' := 1195) (f := scr) (n := len) dL_law_1194 rfl hX (by omega) (by omega) ?_
  refine j_aload_n (pc' := 1196) (z := 1001) dL_law_1195 rfl rfl ?_
  refine j_iload (pc' := 1198) (z := i) dL_law_1196 rfl rfl ?_
  refine j_iconst (pc' := 1199) dL_law_1198 rfl ?_
  refine j_iadd (pc' := 1200) dL_law_1199 rfl ?_
  refine j_xld (pc' := 1201) (f := scr) (n := len) dL_law_1200 rfl hX (by omega) (by omega) ?_
  refine j_callV (pc' := 1204) (q := 53) (as := [aI (scr (i + 1)), aI (scr (i + 2))]) (rest := [aI _]) dL_law_1201 rfl s_Law_146 (c_Mod_quiet hM1 hI.1 hI.2.1 hI.2.2.1 hI.2.2.2.1 hI.2.2.2.2.1 (hsc _) (hsc _)) (by omega) h53 rfl rfl rfl (rmL hcs rfl) (fun r2 w2 h2 => ?_)
  obtain ⟨rfl, hT2⟩ := h2
  refine j_icmpE (tgt := 1708) dL_law_1204 (by decide) ?_
  refine j_wide (k9 := cells + 1) (n9 := slots + 6) (Nat.le_succ _) (Nat.le_add_right _ _) ?_
  exact kont _ _ _ _ _ _ _ _ _ _ ⟨hT1.1.congr (fun j a => hT2.2 j (Or.inl a)), hT2.1, f0, by rw [hT2.2 67 (Or.inr (by omega)), hT1.2 67 (by omega)]; exact hf⟩ hI
set_option maxRecDepth 100000 in
set_option maxHeartbeats 4000000 in
theorem lc_30 {l : Launch} {ad : Nat → Nat} {G : JG} {X : List (Nat × Nat × (Int → Int))} {Z : JZ} {cells slots len : Nat} {scr : Int → Int} {i : Int} {w : AW} {D Di : Int → Int → Int} {n mi hi ni mj : Int} {sh E : Int → Int → Int} (hl9 : l.stackTraces = false) (hX : (1001, len, scr) ∈ X) (hlen : len ≤ 3072) (hi9 : 0 ≤ i ∧ i + 6 ≤ len) (hsc : ∀ j, inI (scr j)) (hcs : cells + 1 ≤ 601024 ∧ slots + 6 ≤ 7293034) (hW : LW w D n mi hi Di ni mj sh E) (hI : Inv D n mi hi Di ni mj sh E) (kont : ∀ (D Di : Int → Int → Int) (n mi hi ni mj : Int) (sh E : Int → Int → Int) (w : AW), LW w D n mi hi Di ni mj sh E → Inv D n mi hi Di ni mj sh E → J l m_Law_law ad G X false Z 68 (cells + 1) (slots + 6) 1708 [some (aR 1001), some (aR 0), some (aR 53), some (aR 67), some (aI i), none, none, none] [] w) : J l m_Law_law ad G X false Z 68 cells slots 1209 [some (aR 1001), some (aR 0), some (aR 53), some (aR 67), some (aI i), none, none, none] [] w := by
  have hB := hI.1
  obtain ⟨hC, hM, f0, hf⟩ := hW
  have hO := hC.1
  refine j_aload_n (pc' := 1210) (z := 0) dL_law_1209 rfl rfl ?_
  refine j_aload_n (pc' := 1211) (z := 1001) dL_law_1210 rfl rfl ?_
  refine j_iload (pc' := 1213) (z := i) dL_law_1211 rfl rfl ?_
  refine j_iconst (pc' := 1214) dL_law_1213 rfl ?_
  refine j_iadd (pc' := 1215) dL_law_1214 rfl ?_
  refine j_xld (pc' := 1216) (f := scr) (n := len) dL_law_1215 rfl hX (by omega) (by omega) ?_
  refine j_callV (pc' := 1219) (q := 0) (as := [aI (scr (i + 1))]) (rest := []) dL_law_1216 rfl s_Law_147 (c_Top_forged hC hI.1 hI.2.1 hI.2.2.1 hI.2.2.2.1 (hsc _)) (by omega) hO rfl rfl rfl (rmL hcs rfl) (fun r1 w1 h1 => ?_)
  obtain ⟨rfl, hT1⟩ := h1
  have hM1 := hM.congr (w' := w1) (fun j a b => hT1.2 j a)
  obtain ⟨⟨pc9, ra9, re9, fm9, se9, th9, h53⟩, -⟩ := id hM1
  refine j_aload_n (pc' := 1220) (z := 53) dL_law_1219 rfl rfl ?_
  refine j_aload_n (pc' := 1221) (z := 1001) dL_law_1220 rfl rfl ?_
  refine j_iload (pc' := 1223) (z := i) dL_law_1221 rfl rfl ?_
  refine j_iconst (pc' := 1224) dL_law_1223 rfl ?_
  refine j_iadd (pc' := 1225) dL_law_1224 rfl ?_
  refine j_xld (pc' := 1226) (f := scr) (n := len) dL_law_1225 rfl hX (by omega) (by omega) ?_
  refine j_callV (pc' := 1229) (q := 53) (as := [aI (scr (i + 1))]) (rest := [aI _]) dL_law_1226 rfl s_Law_150 (c_Mod_forged hM1 hI.1 hI.2.1 hI.2.2.1 hI.2.2.2.1 hI.2.2.2.2.1 (hsc _)) (by omega) h53 rfl rfl rfl (rmL hcs rfl) (fun r2 w2 h2 => ?_)
  obtain ⟨rfl, hT2⟩ := h2
  refine j_icmpE (tgt := 1708) dL_law_1229 (by decide) ?_
  refine j_wide (k9 := cells + 1) (n9 := slots + 6) (Nat.le_succ _) (Nat.le_add_right _ _) ?_
  exact kont _ _ _ _ _ _ _ _ _ _ ⟨hT1.1.congr (fun j a => hT2.2 j (Or.inl a)), hT2.1, f0, by rw [hT2.2 67 (Or.inr (by omega)), hT1.2 67 (by omega)]; exact hf⟩ hI
set_option maxRecDepth 100000 in
set_option maxHeartbeats 4000000 in
theorem lc_31 {l : Launch} {ad : Nat → Nat} {G : JG} {X : List (Nat × Nat × (Int → Int))} {Z : JZ} {cells slots len : Nat} {scr : Int → Int} {i : Int} {w : AW} {D Di : Int → Int → Int} {n mi hi ni mj : Int} {sh E : Int → Int → Int} (hl9 : l.stackTraces = false) (hX : (1001, len, scr) ∈ X) (hlen : len ≤ 3072) (hi9 : 0 ≤ i ∧ i + 6 ≤ len) (hsc : ∀ j, inI (scr j)) (hcs : cells + 1 ≤ 601024 ∧ slots + 6 ≤ 7293034) (hW : LW w D n mi hi Di ni mj sh E) (hI : Inv D n mi hi Di ni mj sh E) (kont : ∀ (D Di : Int → Int → Int) (n mi hi ni mj : Int) (sh E : Int → Int → Int) (w : AW), LW w D n mi hi Di ni mj sh E → Inv D n mi hi Di ni mj sh E → J l m_Law_law ad G X false Z 68 (cells + 1) (slots + 6) 1708 [some (aR 1001), some (aR 0), some (aR 53), some (aR 67), some (aI i), none, none, none] [] w) : J l m_Law_law ad G X false Z 68 cells slots 1234 [some (aR 1001), some (aR 0), some (aR 53), some (aR 67), some (aI i), none, none, none] [] w := by
  have hB := hI.1
  obtain ⟨hC, hM, f0, hf⟩ := hW
  have hO := hC.1
  refine j_aload_n (pc' := 1235) (z := 0) dL_law_1234 rfl rfl ?_
  refine j_aload_n (pc' := 1236) (z := 1001) dL_law_1235 rfl rfl ?_
  refine j_iload (pc' := 1238) (z := i) dL_law_1236 rfl rfl ?_
  refine j_iconst (pc' := 1239) dL_law_1238 rfl ?_
  refine j_iadd (pc' := 1240) dL_law_1239 rfl ?_
  refine j_xld (pc' := 1241) (f := scr) (n := len) dL_law_1240 rfl hX (by omega) (by omega) ?_
  refine j_callV (pc' := 1244) (q := 0) (as := [aI (scr (i + 1))]) (rest := []) dL_law_1241 rfl s_Law_151 (c_Top_judge hC hI.1 hI.2.1 hI.2.2.1 hI.2.2.2.1 hI.2.2.2.2.1 (hsc _)) (by omega) hO rfl rfl rfl (rmL hcs rfl) (fun r1 w1 h1 => ?_)
  obtain ⟨rfl, hT1⟩ := h1
  have hM1 := hM.congr (w' := w1) (fun j a b => hT1.2 j a)
  obtain ⟨⟨pc9, ra9, re9, fm9, se9, th9, h53⟩, -⟩ := id hM1
  refine j_aload_n (pc' := 1245) (z := 53) dL_law_1244 rfl rfl ?_
  refine j_aload_n (pc' := 1246) (z := 1001) dL_law_1245 rfl rfl ?_
  refine j_iload (pc' := 1248) (z := i) dL_law_1246 rfl rfl ?_
  refine j_iconst (pc' := 1249) dL_law_1248 rfl ?_
  refine j_iadd (pc' := 1250) dL_law_1249 rfl ?_
  refine j_xld (pc' := 1251) (f := scr) (n := len) dL_law_1250 rfl hX (by omega) (by omega) ?_
  refine j_callV (pc' := 1254) (q := 53) (as := [aI (scr (i + 1))]) (rest := [aI _]) dL_law_1251 rfl s_Law_154 (c_Mod_judge hM1 hI.1 hI.2.1 hI.2.2.1 hI.2.2.2.1 hI.2.2.2.2.1 (hsc _)) (by omega) h53 rfl rfl rfl (rmL hcs rfl) (fun r2 w2 h2 => ?_)
  obtain ⟨rfl, hT2⟩ := h2
  refine j_icmpE (tgt := 1708) dL_law_1254 (by decide) ?_
  refine j_wide (k9 := cells + 1) (n9 := slots + 6) (Nat.le_succ _) (Nat.le_add_right _ _) ?_
  exact kont _ _ _ _ _ _ _ _ _ _ ⟨hT1.1.congr (fun j a => hT2.2 j (Or.inl a)), hT2.1, f0, by rw [hT2.2 67 (Or.inr (by omega)), hT1.2 67 (by omega)]; exact hf⟩ hI
set_option maxRecDepth 100000 in
set_option maxHeartbeats 4000000 in
theorem lc_32 {l : Launch} {ad : Nat → Nat} {G : JG} {X : List (Nat × Nat × (Int → Int))} {Z : JZ} {cells slots len : Nat} {scr : Int → Int} {i : Int} {w : AW} {D Di : Int → Int → Int} {n mi hi ni mj : Int} {sh E : Int → Int → Int} (hl9 : l.stackTraces = false) (hX : (1001, len, scr) ∈ X) (hlen : len ≤ 3072) (hi9 : 0 ≤ i ∧ i + 6 ≤ len) (hsc : ∀ j, inI (scr j)) (hcs : cells + 1 ≤ 601024 ∧ slots + 6 ≤ 7293034) (hW : LW w D n mi hi Di ni mj sh E) (hI : Inv D n mi hi Di ni mj sh E) (kont : ∀ (D Di : Int → Int → Int) (n mi hi ni mj : Int) (sh E : Int → Int → Int) (w : AW), LW w D n mi hi Di ni mj sh E → Inv D n mi hi Di ni mj sh E → J l m_Law_law ad G X false Z 68 (cells + 1) (slots + 6) 1708 [some (aR 1001), some (aR 0), some (aR 53), some (aR 67), some (aI i), none, none, none] [] w) : J l m_Law_law ad G X false Z 68 cells slots 1259 [some (aR 1001), some (aR 0), some (aR 53), some (aR 67), some (aI i), none, none, none] [] w := by
  have hB := hI.1
  obtain ⟨hC, hM, f0, hf⟩ := hW
  have hO := hC.1
  refine j_aload_n (pc' := 1260) (z := 0) dL_law_1259 rfl rfl ?_
  refine j_aload_n (pc' := 1261) (z := 1001) dL_law_1260 rfl rfl ?_
  refine j_iload (pc' := 1263) (z := i) dL_law_1261 rfl rfl ?_
  refine j_iconst (pc' := 1264) dL_law_1263 rfl ?_
  refine j_iadd (pc' := 1265) dL_law_1264 rfl ?_
  refine j_xld (pc' := 1266) (f := scr) (n := len) dL_law_1265 rfl hX (by omega) (by omega) ?_
  refine j_aload_n (pc' := 1267) (z := 1001) dL_law_1266 rfl rfl ?_
  refine j_iload (pc' := 1269) (z := i) dL_law_1267 rfl rfl ?_
  refine j_iconst (pc' := 1270) dL_law_1269 rfl ?_
  refine j_iadd (pc' := 1271) dL_law_1270 rfl ?_
  refine j_xld (pc' := 1272) (f := scr) (n := len) dL_law_1271 rfl hX (by omega) (by omega) ?_
  refine j_aload_n (pc' := 1273) (z := 1001) dL_law_1272 rfl rfl ?_
  refine j_iload (pc' := 1275) (z := i) dL_law_1273 rfl rfl ?_
  refine j_iconst (pc' := 1276) dL_law_1275 rfl ?_
  refine j_iadd (pc' := 1277) dL_law_1276 rfl ?_
  refine j_xld (pc' := 1278) (f := scr) (n := len) dL_law_1277 rfl hX (by omega) (by omega) ?_
  refine j_callV (pc' := 1281) (q := 0) (as := [aI (scr (i + 1)), aI (scr (i + 2)), aI (scr (i + 3))]) (rest := []) dL_law_1278 rfl s_Law_155 (c_Top_winters hC hI.1 hI.2.1 hI.2.2.1 hI.2.2.2.1 hI.2.2.2.2.1 (hsc _) (hsc _) (hsc _)) (by omega) hO rfl rfl rfl (rmL hcs rfl) (fun r1 w1 h1 => ?_)
  obtain ⟨rfl, hT1⟩ := h1
  have hM1 := hM.congr (w' := w1) (fun j a b => hT1.2 j a)
  obtain ⟨⟨pc9, ra9, re9, fm9, se9, th9, h53⟩, -⟩ := id hM1
  refine j_aload_n (pc' := 1282) (z := 53) dL_law_1281 rfl rfl ?_
  refine j_aload_n (pc' := 1283) (z := 1001) dL_law_1282 rfl rfl ?_
  refine j_iload (pc' := 1285) (z := i) dL_law_1283 rfl rfl ?_
  refine j_iconst (pc' := 1286) dL_law_1285 rfl ?_
  refine j_iadd (pc' := 1287) dL_law_1286 rfl ?_
  refine j_xld (pc' := 1288) (f := scr) (n := len) dL_law_1287 rfl hX (by omega) (by omega) ?_
  refine j_aload_n (pc' := 1289) (z := 1001) dL_law_1288 rfl rfl ?_
  refine j_iload (pc' := 1291) (z := i) dL_law_1289 rfl rfl ?_
  refine j_iconst (pc' := 1292) dL_law_1291 rfl ?_
  refine j_iadd (pc' := 1293) dL_law_1292 rfl ?_
  refine j_xld (pc' := 1294) (f := scr) (n := len) dL_law_1293 rfl hX (by omega) (by omega) ?_
  refine j_aload_n (pc' := 1295) (z := 1001) dL_law_1294 rfl rfl ?_
  refine j_iload (pc' := 1297) (z := i) dL_law_1295 rfl rfl ?_
  refine j_iconst (pc' := 1298) dL_law_1297 rfl ?_
  refine j_iadd (pc' := 1299) dL_law_1298 rfl ?_
  refine j_xld (pc' := 1300) (f := scr) (n := len) dL_law_1299 rfl hX (by omega) (by omega) ?_
  refine j_callV (pc' := 1303) (q := 53) (as := [aI (scr (i + 1)), aI (scr (i + 2)), aI (scr (i + 3))]) (rest := [aI _]) dL_law_1300 rfl s_Law_158 (c_Mod_winters hM1 hI.1 hI.2.1 hI.2.2.1 hI.2.2.2.1 hI.2.2.2.2.1 (hsc _) (hsc _) (hsc _)) (by omega) h53 rfl rfl rfl (rmL hcs rfl) (fun r2 w2 h2 => ?_)
  obtain ⟨rfl, hT2⟩ := h2
  refine j_icmpE (tgt := 1708) dL_law_1303 (by decide) ?_
  refine j_wide (k9 := cells + 1) (n9 := slots + 6) (Nat.le_succ _) (Nat.le_add_right _ _) ?_
  exact kont _ _ _ _ _ _ _ _ _ _ ⟨hT1.1.congr (fun j a => hT2.2 j (Or.inl a)), hT2.1, f0, by rw [hT2.2 67 (Or.inr (by omega)), hT1.2 67 (by omega)]; exact hf⟩ hI
set_option maxRecDepth 100000 in
set_option maxHeartbeats 4000000 in
theorem lc_33 {l : Launch} {ad : Nat → Nat} {G : JG} {X : List (Nat × Nat × (Int → Int))} {Z : JZ} {cells slots len : Nat} {scr : Int → Int} {i : Int} {w : AW} {D Di : Int → Int → Int} {n mi hi ni mj : Int} {sh E : Int → Int → Int} (hl9 : l.stackTraces = false) (hX : (1001, len, scr) ∈ X) (hlen : len ≤ 3072) (hi9 : 0 ≤ i ∧ i + 6 ≤ len) (hsc : ∀ j, inI (scr j)) (hcs : cells + 1 ≤ 601024 ∧ slots + 6 ≤ 7293034) (hW : LW w D n mi hi Di ni mj sh E) (hI : Inv D n mi hi Di ni mj sh E) (kont : ∀ (D Di : Int → Int → Int) (n mi hi ni mj : Int) (sh E : Int → Int → Int) (w : AW), LW w D n mi hi Di ni mj sh E → Inv D n mi hi Di ni mj sh E → J l m_Law_law ad G X false Z 68 (cells + 1) (slots + 6) 1708 [some (aR 1001), some (aR 0), some (aR 53), some (aR 67), some (aI i), none, none, none] [] w) : J l m_Law_law ad G X false Z 68 cells slots 1308 [some (aR 1001), some (aR 0), some (aR 53), some (aR 67), some (aI i), none, none, none] [] w := by
  have hB := hI.1
  obtain ⟨hC, hM, f0, hf⟩ := hW
  have hO := hC.1
  refine j_aload_n (pc' := 1309) (z := 0) dL_law_1308 rfl rfl ?_
  refine j_callV (pc' := 1312) (q := 0) (as := []) (rest := []) dL_law_1309 rfl s_Law_159 (c_Top_image hC hI.1 hI.2.1 hI.2.2.1 hI.2.2.2.1 ) (by omega) hO rfl rfl rfl (rmL hcs rfl) (fun r1 w1 h1 => ?_)
  obtain ⟨rfl, hT1⟩ := h1
  have hM1 := hM.congr (w' := w1) (fun j a b => hT1.2 j a)
  obtain ⟨⟨pc9, ra9, re9, fm9, se9, th9, h53⟩, -⟩ := id hM1
  refine j_aload_n (pc' := 1313) (z := 53) dL_law_1312 rfl rfl ?_
  refine j_callV (pc' := 1316) (q := 53) (as := []) (rest := [aI _]) dL_law_1313 rfl s_Law_162 (c_Mod_image hM1 hI.1 hI.2.1 hI.2.2.1 hI.2.2.2.1 hI.2.2.2.2.1 ) (by omega) h53 rfl rfl rfl (rmL hcs rfl) (fun r2 w2 h2 => ?_)
  obtain ⟨rfl, hT2⟩ := h2
  refine j_icmpE (tgt := 1708) dL_law_1316 (by decide) ?_
  refine j_wide (k9 := cells + 1) (n9 := slots + 6) (Nat.le_succ _) (Nat.le_add_right _ _) ?_
  exact kont _ _ _ _ _ _ _ _ _ _ ⟨hT1.1.congr (fun j a => hT2.2 j (Or.inl a)), hT2.1, f0, by rw [hT2.2 67 (Or.inr (by omega)), hT1.2 67 (by omega)]; exact hf⟩ hI.image
set_option maxRecDepth 100000 in
set_option maxHeartbeats 4000000 in
theorem lc_34 {l : Launch} {ad : Nat → Nat} {G : JG} {X : List (Nat × Nat × (Int → Int))} {Z : JZ} {cells slots len : Nat} {scr : Int → Int} {i : Int} {w : AW} {D Di : Int → Int → Int} {n mi hi ni mj : Int} {sh E : Int → Int → Int} (hl9 : l.stackTraces = false) (hX : (1001, len, scr) ∈ X) (hlen : len ≤ 3072) (hi9 : 0 ≤ i ∧ i + 6 ≤ len) (hsc : ∀ j, inI (scr j)) (hcs : cells + 1 ≤ 601024 ∧ slots + 6 ≤ 7293034) (hW : LW w D n mi hi Di ni mj sh E) (hI : Inv D n mi hi Di ni mj sh E) (kont : ∀ (D Di : Int → Int → Int) (n mi hi ni mj : Int) (sh E : Int → Int → Int) (w : AW), LW w D n mi hi Di ni mj sh E → Inv D n mi hi Di ni mj sh E → J l m_Law_law ad G X false Z 68 (cells + 1) (slots + 6) 1708 [some (aR 1001), some (aR 0), some (aR 53), some (aR 67), some (aI i), none, none, none] [] w) : J l m_Law_law ad G X false Z 68 cells slots 1321 [some (aR 1001), some (aR 0), some (aR 53), some (aR 67), some (aI i), none, none, none] [] w := by
  have hB := hI.1
  obtain ⟨hC, hM, f0, hf⟩ := hW
  have hO := hC.1
  refine j_aload_n (pc' := 1322) (z := 0) dL_law_1321 rfl rfl ?_
  refine j_callV (pc' := 1325) (q := 0) (as := []) (rest := []) dL_law_1322 rfl s_Law_163 (c_Top_restore hC hI.1 hI.2.1 hI.2.2.1 hI.2.2.2.1 ) (by omega) hO rfl rfl rfl (rmL hcs rfl) (fun r1 w1 h1 => ?_)
  obtain ⟨rfl, hT1⟩ := h1
  have hM1 := hM.congr (w' := w1) (fun j a b => hT1.2 j a)
  obtain ⟨⟨pc9, ra9, re9, fm9, se9, th9, h53⟩, -⟩ := id hM1
  refine j_aload_n (pc' := 1326) (z := 53) dL_law_1325 rfl rfl ?_
  refine j_callV (pc' := 1329) (q := 53) (as := []) (rest := [aI _]) dL_law_1326 rfl s_Law_166 (c_Mod_restore hM1 hI.1 hI.2.1 hI.2.2.1 hI.2.2.2.1 hI.2.2.2.2.1 ) (by omega) h53 rfl rfl rfl (rmL hcs rfl) (fun r2 w2 h2 => ?_)
  obtain ⟨rfl, hT2⟩ := h2
  refine j_icmpE (tgt := 1708) dL_law_1329 (by decide) ?_
  refine j_wide (k9 := cells + 1) (n9 := slots + 6) (Nat.le_succ _) (Nat.le_add_right _ _) ?_
  exact kont _ _ _ _ _ _ _ _ _ _ ⟨hT1.1.congr (fun j a => hT2.2 j (Or.inl a)), hT2.1, f0, by rw [hT2.2 67 (Or.inr (by omega)), hT1.2 67 (by omega)]; exact hf⟩ hI.restore
set_option maxRecDepth 100000 in
set_option maxHeartbeats 4000000 in
theorem lc_35 {l : Launch} {ad : Nat → Nat} {G : JG} {X : List (Nat × Nat × (Int → Int))} {Z : JZ} {cells slots len : Nat} {scr : Int → Int} {i : Int} {w : AW} {D Di : Int → Int → Int} {n mi hi ni mj : Int} {sh E : Int → Int → Int} (hl9 : l.stackTraces = false) (hX : (1001, len, scr) ∈ X) (hlen : len ≤ 3072) (hi9 : 0 ≤ i ∧ i + 6 ≤ len) (hsc : ∀ j, inI (scr j)) (hcs : cells + 1 ≤ 601024 ∧ slots + 6 ≤ 7293034) (hW : LW w D n mi hi Di ni mj sh E) (hI : Inv D n mi hi Di ni mj sh E) (kont : ∀ (D Di : Int → Int → Int) (n mi hi ni mj : Int) (sh E : Int → Int → Int) (w : AW), LW w D n mi hi Di ni mj sh E → Inv D n mi hi Di ni mj sh E → J l m_Law_law ad G X false Z 68 (cells + 1) (slots + 6) 1708 [some (aR 1001), some (aR 0), some (aR 53), some (aR 67), some (aI i), none, none, none] [] w) : J l m_Law_law ad G X false Z 68 cells slots 1334 [some (aR 1001), some (aR 0), some (aR 53), some (aR 67), some (aI i), none, none, none] [] w := by
  have hB := hI.1
  obtain ⟨hC, hM, f0, hf⟩ := hW
  have hO := hC.1
  refine j_aload_n (pc' := 1335) (z := 0) dL_law_1334 rfl rfl ?_
  refine j_aload_n (pc' := 1336) (z := 1001) dL_law_1335 rfl rfl ?_
  refine j_iload (pc' := 1338) (z := i) dL_law_1336 rfl rfl ?_
  refine j_iconst (pc' := 1339) dL_law_1338 rfl ?_
  refine j_iadd (pc' := 1340) dL_law_1339 rfl ?_
  refine j_xld (pc' := 1341) (f := scr) (n := len) dL_law_1340 rfl hX (by omega) (by omega) ?_
  refine j_callV (pc' := 1344) (q := 0) (as := [aI (scr (i + 1))]) (rest := []) dL_law_1341 rfl s_Law_167 (c_Top_count hC hI.1 hI.2.1 hI.2.2.1 hI.2.2.2.1 (hsc _)) (by omega) hO rfl rfl rfl (rmL hcs rfl) (fun r1 w1 h1 => ?_)
  obtain ⟨rfl, hT1⟩ := h1
  have hM1 := hM.congr (w' := w1) (fun j a b => hT1.2 j a)
  obtain ⟨⟨pc9, ra9, re9, fm9, se9, th9, h53⟩, -⟩ := id hM1
  refine j_aload_n (pc' := 1345) (z := 53) dL_law_1344 rfl rfl ?_
  refine j_aload_n (pc' := 1346) (z := 1001) dL_law_1345 rfl rfl ?_
  refine j_iload (pc' := 1348) (z := i) dL_law_1346 rfl rfl ?_
  refine j_iconst (pc' := 1349) dL_law_1348 rfl ?_
  refine j_iadd (pc' := 1350) dL_law_1349 rfl ?_
  refine j_xld (pc' := 1351) (f := scr) (n := len) dL_law_1350 rfl hX (by omega) (by omega) ?_
  refine j_callV (pc' := 1354) (q := 53) (as := [aI (scr (i + 1))]) (rest := [aI _]) dL_law_1351 rfl s_Law_170 (c_Mod_count hM1 hI.1 hI.2.1 hI.2.2.1 hI.2.2.2.1 hI.2.2.2.2.1 (hsc _)) (by omega) h53 rfl rfl rfl (rmL hcs rfl) (fun r2 w2 h2 => ?_)
  obtain ⟨rfl, hT2⟩ := h2
  refine j_icmpE (tgt := 1708) dL_law_1354 (by decide) ?_
  refine j_wide (k9 := cells + 1) (n9 := slots + 6) (Nat.le_succ _) (Nat.le_add_right _ _) ?_
  exact kont _ _ _ _ _ _ _ _ _ _ ⟨hT1.1.congr (fun j a => hT2.2 j (Or.inl a)), hT2.1, f0, by rw [hT2.2 67 (Or.inr (by omega)), hT1.2 67 (by omega)]; exact hf⟩ hI
set_option maxRecDepth 100000 in
set_option maxHeartbeats 4000000 in
theorem lc_36 {l : Launch} {ad : Nat → Nat} {G : JG} {X : List (Nat × Nat × (Int → Int))} {Z : JZ} {cells slots len : Nat} {scr : Int → Int} {i : Int} {w : AW} {D Di : Int → Int → Int} {n mi hi ni mj : Int} {sh E : Int → Int → Int} (hl9 : l.stackTraces = false) (hX : (1001, len, scr) ∈ X) (hlen : len ≤ 3072) (hi9 : 0 ≤ i ∧ i + 6 ≤ len) (hsc : ∀ j, inI (scr j)) (hcs : cells + 1 ≤ 601024 ∧ slots + 6 ≤ 7293034) (hW : LW w D n mi hi Di ni mj sh E) (hI : Inv D n mi hi Di ni mj sh E) (kont : ∀ (D Di : Int → Int → Int) (n mi hi ni mj : Int) (sh E : Int → Int → Int) (w : AW), LW w D n mi hi Di ni mj sh E → Inv D n mi hi Di ni mj sh E → J l m_Law_law ad G X false Z 68 (cells + 1) (slots + 6) 1708 [some (aR 1001), some (aR 0), some (aR 53), some (aR 67), some (aI i), none, none, none] [] w) : J l m_Law_law ad G X false Z 68 cells slots 1359 [some (aR 1001), some (aR 0), some (aR 53), some (aR 67), some (aI i), none, none, none] [] w := by
  have hB := hI.1
  obtain ⟨hC, hM, f0, hf⟩ := hW
  have hO := hC.1
  refine j_aload_n (pc' := 1360) (z := 0) dL_law_1359 rfl rfl ?_
  refine j_aload_n (pc' := 1361) (z := 1001) dL_law_1360 rfl rfl ?_
  refine j_iload (pc' := 1363) (z := i) dL_law_1361 rfl rfl ?_
  refine j_iconst (pc' := 1364) dL_law_1363 rfl ?_
  refine j_iadd (pc' := 1365) dL_law_1364 rfl ?_
  refine j_xld (pc' := 1366) (f := scr) (n := len) dL_law_1365 rfl hX (by omega) (by omega) ?_
  refine j_aload_n (pc' := 1367) (z := 1001) dL_law_1366 rfl rfl ?_
  refine j_iload (pc' := 1369) (z := i) dL_law_1367 rfl rfl ?_
  refine j_iconst (pc' := 1370) dL_law_1369 rfl ?_
  refine j_iadd (pc' := 1371) dL_law_1370 rfl ?_
  refine j_xld (pc' := 1372) (f := scr) (n := len) dL_law_1371 rfl hX (by omega) (by omega) ?_
  refine j_aload_n (pc' := 1373) (z := 1001) dL_law_1372 rfl rfl ?_
  refine j_iload (pc' := 1375) (z := i) dL_law_1373 rfl rfl ?_
  refine j_iconst (pc' := 1376) dL_law_1375 rfl ?_
  refine j_iadd (pc' := 1377) dL_law_1376 rfl ?_
  refine j_xld (pc' := 1378) (f := scr) (n := len) dL_law_1377 rfl hX (by omega) (by omega) ?_
  refine j_aload_n (pc' := 1379) (z := 1001) dL_law_1378 rfl rfl ?_
  refine j_iload (pc' := 1381) (z := i) dL_law_1379 rfl rfl ?_
  refine j_iconst (pc' := 1382) dL_law_1381 rfl ?_
  refine j_iadd (pc' := 1383) dL_law_1382 rfl ?_
  refine j_xld (pc' := 1384) (f := scr) (n := len) dL_law_1383 rfl hX (by omega) (by omega) ?_
  refine j_callV (pc' := 1387) (q := 0) (as := [aI (scr (i + 1)), aI (scr (i + 2)), aI (scr (i + 3)), aI (scr (i + 4))]) (rest := []) dL_law_1384 rfl s_Law_171 (c_Top_keep hC hI.1 hI.2.1 hI.2.2.1 hI.2.2.2.1 (hsc _) (hsc _) (hsc _) (hsc _)) (by omega) hO rfl rfl rfl (rmL hcs rfl) (fun r1 w1 h1 => ?_)
  obtain ⟨rfl, hT1⟩ := h1
  have hM1 := hM.congr (w' := w1) (fun j a b => hT1.2 j a)
  obtain ⟨⟨pc9, ra9, re9, fm9, se9, th9, h53⟩, -⟩ := id hM1
  refine j_aload_n (pc' := 1388) (z := 53) dL_law_1387 rfl rfl ?_
  refine j_aload_n (pc' := 1389) (z := 1001) dL_law_1388 rfl rfl ?_
  refine j_iload (pc' := 1391) (z := i) dL_law_1389 rfl rfl ?_
  refine j_iconst (pc' := 1392) dL_law_1391 rfl ?_
  refine j_iadd (pc' := 1393) dL_law_1392 rfl ?_
  refine j_xld (pc' := 1394) (f := scr) (n := len) dL_law_1393 rfl hX (by omega) (by omega) ?_
  refine j_aload_n (pc' := 1395) (z := 1001) dL_law_1394 rfl rfl ?_
  refine j_iload (pc' := 1397) (z := i) dL_law_1395 rfl rfl ?_
  refine j_iconst (pc' := 1398) dL_law_1397 rfl ?_
  refine j_iadd (pc' := 1399) dL_law_1398 rfl ?_
  refine j_xld (pc' := 1400) (f := scr) (n := len) dL_law_1399 rfl hX (by omega) (by omega) ?_
  refine j_aload_n (pc' := 1401) (z := 1001) dL_law_1400 rfl rfl ?_
  refine j_iload (pc' := 1403) (z := i) dL_law_1401 rfl rfl ?_
  refine j_iconst (pc' := 1404) dL_law_1403 rfl ?_
  refine j_iadd (pc' := 1405) dL_law_1404 rfl ?_
  refine j_xld (pc' := 1406) (f := scr) (n := len) dL_law_1405 rfl hX (by omega) (by omega) ?_
  refine j_aload_n (pc' := 1407) (z := 1001) dL_law_1406 rfl rfl ?_
  refine j_iload (pc' := 1409) (z := i) dL_law_1407 rfl rfl ?_
  refine j_iconst (pc' := 1410) dL_law_1409 rfl ?_
  refine j_iadd (pc' := 1411) dL_law_1410 rfl ?_
  refine j_xld (pc' := 1412) (f := scr) (n := len) dL_law_1411 rfl hX (by omega) (by omega) ?_
  refine j_callV (pc' := 1415) (q := 53) (as := [aI (scr (i + 1)), aI (scr (i + 2)), aI (scr (i + 3)), aI (scr (i + 4))]) (rest := [aI _]) dL_law_1412 rfl s_Law_174 (c_Mod_keep hM1 hI.1 hI.2.1 hI.2.2.1 hI.2.2.2.1 hI.2.2.2.2.1 (hsc _) (hsc _) (hsc _) (hsc _)) (by omega) h53 rfl rfl rfl (rmL hcs rfl) (fun r2 w2 h2 => ?_)
  obtain ⟨rfl, hT2⟩ := h2
  refine j_icmpE (tgt := 1708) dL_law_1415 (by decide) ?_
  refine j_wide (k9 := cells + 1) (n9 := slots + 6) (Nat.le_succ _) (Nat.le_add_right _ _) ?_
  exact kont _ _ _ _ _ _ _ _ _ _ ⟨hT1.1.congr (fun j a => hT2.2 j (Or.inl a)), hT2.1, f0, by rw [hT2.2 67 (Or.inr (by omega)), hT1.2 67 (by omega)]; exact hf⟩ hI.keep
set_option maxRecDepth 100000 in
set_option maxHeartbeats 4000000 in
theorem lc_37 {l : Launch} {ad : Nat → Nat} {G : JG} {X : List (Nat × Nat × (Int → Int))} {Z : JZ} {cells slots len : Nat} {scr : Int → Int} {i : Int} {w : AW} {D Di : Int → Int → Int} {n mi hi ni mj : Int} {sh E : Int → Int → Int} (hl9 : l.stackTraces = false) (hX : (1001, len, scr) ∈ X) (hlen : len ≤ 3072) (hi9 : 0 ≤ i ∧ i + 6 ≤ len) (hsc : ∀ j, inI (scr j)) (hcs : cells + 1 ≤ 601024 ∧ slots + 6 ≤ 7293034) (hW : LW w D n mi hi Di ni mj sh E) (hI : Inv D n mi hi Di ni mj sh E) (kont : ∀ (D Di : Int → Int → Int) (n mi hi ni mj : Int) (sh E : Int → Int → Int) (w : AW), LW w D n mi hi Di ni mj sh E → Inv D n mi hi Di ni mj sh E → J l m_Law_law ad G X false Z 68 (cells + 1) (slots + 6) 1708 [some (aR 1001), some (aR 0), some (aR 53), some (aR 67), some (aI i), none, none, none] [] w) : J l m_Law_law ad G X false Z 68 cells slots 1420 [some (aR 1001), some (aR 0), some (aR 53), some (aR 67), some (aI i), none, none, none] [] w := by
  have hB := hI.1
  obtain ⟨hC, hM, f0, hf⟩ := hW
  have hO := hC.1
  refine j_aload_n (pc' := 1421) (z := 0) dL_law_1420 rfl rfl ?_
  refine j_aload_n (pc' := 1422) (z := 1001) dL_law_1421 rfl rfl ?_
  refine j_iload (pc' := 1424) (z := i) dL_law_1422 rfl rfl ?_
  refine j_iconst (pc' := 1425) dL_law_1424 rfl ?_
  refine j_iadd (pc' := 1426) dL_law_1425 rfl ?_
  refine j_xld (pc' := 1427) (f := scr) (n := len) dL_law_1426 rfl hX (by omega) (by omega) ?_
  refine j_aload_n (pc' := 1428) (z := 1001) dL_law_1427 rfl rfl ?_
  refine j_iload (pc' := 1430) (z := i) dL_law_1428 rfl rfl ?_
  refine j_iconst (pc' := 1431) dL_law_1430 rfl ?_
  refine j_iadd (pc' := 1432) dL_law_1431 rfl ?_
  refine j_xld (pc' := 1433) (f := scr) (n := len) dL_law_1432 rfl hX (by omega) (by omega) ?_
  refine j_aload_n (pc' := 1434) (z := 1001) dL_law_1433 rfl rfl ?_
  refine j_iload (pc' := 1436) (z := i) dL_law_1434 rfl rfl ?_
  refine j_iconst (pc' := 1437) dL_law_1436 rfl ?_
  refine j_iadd (pc' := 1438) dL_law_1437 rfl ?_
  refine j_xld (pc' := 1439) (f := scr) (n := len) dL_law_1438 rfl hX (by omega) (by omega) ?_
  refine j_callV (pc' := 1442) (q := 0) (as := [aI (scr (i + 1)), aI (scr (i + 2)), aI (scr (i + 3))]) (rest := []) dL_law_1439 rfl s_Law_175 (c_Top_row hC hI.1 hI.2.1 hI.2.2.1 hI.2.2.2.1 (hsc _) (hsc _) (hsc _)) (by omega) hO rfl rfl rfl (rmL hcs rfl) (fun r1 w1 h1 => ?_)
  obtain ⟨rfl, hT1⟩ := h1
  have hM1 := hM.congr (w' := w1) (fun j a b => hT1.2 j a)
  obtain ⟨⟨pc9, ra9, re9, fm9, se9, th9, h53⟩, -⟩ := id hM1
  refine j_aload_n (pc' := 1443) (z := 53) dL_law_1442 rfl rfl ?_
  refine j_aload_n (pc' := 1444) (z := 1001) dL_law_1443 rfl rfl ?_
  refine j_iload (pc' := 1446) (z := i) dL_law_1444 rfl rfl ?_
  refine j_iconst (pc' := 1447) dL_law_1446 rfl ?_
  refine j_iadd (pc' := 1448) dL_law_1447 rfl ?_
  refine j_xld (pc' := 1449) (f := scr) (n := len) dL_law_1448 rfl hX (by omega) (by omega) ?_
  refine j_aload_n (pc' := 1450) (z := 1001) dL_law_1449 rfl rfl ?_
  refine j_iload (pc' := 1452) (z := i) dL_law_1450 rfl rfl ?_
  refine j_iconst (pc' := 1453) dL_law_1452 rfl ?_
  refine j_iadd (pc' := 1454) dL_law_1453 rfl ?_
  refine j_xld (pc' := 1455) (f := scr) (n := len) dL_law_1454 rfl hX (by omega) (by omega) ?_
  refine j_aload_n (pc' := 1456) (z := 1001) dL_law_1455 rfl rfl ?_
  refine j_iload (pc' := 1458) (z := i) dL_law_1456 rfl rfl ?_
  refine j_iconst (pc' := 1459) dL_law_1458 rfl ?_
  refine j_iadd (pc' := 1460) dL_law_1459 rfl ?_
  refine j_xld (pc' := 1461) (f := scr) (n := len) dL_law_1460 rfl hX (by omega) (by omega) ?_
  refine j_callV (pc' := 1464) (q := 53) (as := [aI (scr (i + 1)), aI (scr (i + 2)), aI (scr (i + 3))]) (rest := [aI _]) dL_law_1461 rfl s_Law_178 (c_Mod_row hM1 hI.1 hI.2.1 hI.2.2.1 hI.2.2.2.1 hI.2.2.2.2.1 (hsc _) (hsc _) (hsc _)) (by omega) h53 rfl rfl rfl (rmL hcs rfl) (fun r2 w2 h2 => ?_)
  obtain ⟨rfl, hT2⟩ := h2
  refine j_icmpE (tgt := 1708) dL_law_1464 (by decide) ?_
  refine j_wide (k9 := cells + 1) (n9 := slots + 6) (Nat.le_succ _) (Nat.le_add_right _ _) ?_
  exact kont _ _ _ _ _ _ _ _ _ _ ⟨hT1.1.congr (fun j a => hT2.2 j (Or.inl a)), hT2.1, f0, by rw [hT2.2 67 (Or.inr (by omega)), hT1.2 67 (by omega)]; exact hf⟩ hI.row
set_option maxRecDepth 100000 in
set_option maxHeartbeats 4000000 in
theorem lc_38 {l : Launch} {ad : Nat → Nat} {G : JG} {X : List (Nat × Nat × (Int → Int))} {Z : JZ} {cells slots len : Nat} {scr : Int → Int} {i : Int} {w : AW} {D Di : Int → Int → Int} {n mi hi ni mj : Int} {sh E : Int → Int → Int} (hl9 : l.stackTraces = false) (hX : (1001, len, scr) ∈ X) (hlen : len ≤ 3072) (hi9 : 0 ≤ i ∧ i + 6 ≤ len) (hsc : ∀ j, inI (scr j)) (hcs : cells + 1 ≤ 601024 ∧ slots + 6 ≤ 7293034) (hW : LW w D n mi hi Di ni mj sh E) (hI : Inv D n mi hi Di ni mj sh E) (kont : ∀ (D Di : Int → Int → Int) (n mi hi ni mj : Int) (sh E : Int → Int → Int) (w : AW), LW w D n mi hi Di ni mj sh E → Inv D n mi hi Di ni mj sh E → J l m_Law_law ad G X false Z 68 (cells + 1) (slots + 6) 1708 [some (aR 1001), some (aR 0), some (aR 53), some (aR 67), some (aI i), none, none, none] [] w) : J l m_Law_law ad G X false Z 68 cells slots 1469 [some (aR 1001), some (aR 0), some (aR 53), some (aR 67), some (aI i), none, none, none] [] w := by
  have hB := hI.1
  obtain ⟨hC, hM, f0, hf⟩ := hW
  have hO := hC.1
  refine j_aload_n (pc' := 1470) (z := 0) dL_law_1469 rfl rfl ?_
  refine j_aload_n (pc' := 1471) (z := 1001) dL_law_1470 rfl rfl ?_
  refine j_iload (pc' := 1473) (z := i) dL_law_1471 rfl rfl ?_
  refine j_iconst (pc' := 1474) dL_law_1473 rfl ?_
  refine j_iadd (pc' := 1475) dL_law_1474 rfl ?_
  refine j_xld (pc' := 1476) (f := scr) (n := len) dL_law_1475 rfl hX (by omega) (by omega) ?_
  refine j_aload_n (pc' := 1477) (z := 1001) dL_law_1476 rfl rfl ?_
  refine j_iload (pc' := 1479) (z := i) dL_law_1477 rfl rfl ?_
  refine j_iconst (pc' := 1480) dL_law_1479 rfl ?_
  refine j_iadd (pc' := 1481) dL_law_1480 rfl ?_
  refine j_xld (pc' := 1482) (f := scr) (n := len) dL_law_1481 rfl hX (by omega) (by omega) ?_
  refine j_aload_n (pc' := 1483) (z := 1001) dL_law_1482 rfl rfl ?_
  refine j_iload (pc' := 1485) (z := i) dL_law_1483 rfl rfl ?_
  refine j_iconst (pc' := 1486) dL_law_1485 rfl ?_
  refine j_iadd (pc' := 1487) dL_law_1486 rfl ?_
  refine j_xld (pc' := 1488) (f := scr) (n := len) dL_law_1487 rfl hX (by omega) (by omega) ?_
  refine j_callV (pc' := 1491) (q := 0) (as := [aI (scr (i + 1)), aI (scr (i + 2)), aI (scr (i + 3))]) (rest := []) dL_law_1488 rfl s_Law_179 (c_Top_put hC hI.1 hI.2.1 hI.2.2.1 hI.2.2.2.1 (hsc _) (hsc _) (hsc _)) (by omega) hO rfl rfl rfl (rmL hcs rfl) (fun r1 w1 h1 => ?_)
  obtain ⟨rfl, hT1⟩ := h1
  have hM1 := hM.congr (w' := w1) (fun j a b => hT1.2 j a)
  obtain ⟨⟨pc9, ra9, re9, fm9, se9, th9, h53⟩, -⟩ := id hM1
  refine j_aload_n (pc' := 1492) (z := 53) dL_law_1491 rfl rfl ?_
  refine j_aload_n (pc' := 1493) (z := 1001) dL_law_1492 rfl rfl ?_
  refine j_iload (pc' := 1495) (z := i) dL_law_1493 rfl rfl ?_
  refine j_iconst (pc' := 1496) dL_law_1495 rfl ?_
  refine j_iadd (pc' := 1497) dL_law_1496 rfl ?_
  refine j_xld (pc' := 1498) (f := scr) (n := len) dL_law_1497 rfl hX (by omega) (by omega) ?_
  refine j_aload_n (pc' := 1499) (z := 1001) dL_law_1498 rfl rfl ?_
  refine j_iload (pc' := 1501) (z := i) dL_law_1499 rfl rfl ?_
  refine j_iconst (pc' := 1502) dL_law_1501 rfl ?_
  refine j_iadd (pc' := 1503) dL_law_1502 rfl ?_
  refine j_xld (pc' := 1504) (f := scr) (n := len) dL_law_1503 rfl hX (by omega) (by omega) ?_
  refine j_aload_n (pc' := 1505) (z := 1001) dL_law_1504 rfl rfl ?_
  refine j_iload (pc' := 1507) (z := i) dL_law_1505 rfl rfl ?_
  refine j_iconst (pc' := 1508) dL_law_1507 rfl ?_
  refine j_iadd (pc' := 1509) dL_law_1508 rfl ?_
  refine j_xld (pc' := 1510) (f := scr) (n := len) dL_law_1509 rfl hX (by omega) (by omega) ?_
  refine j_callV (pc' := 1513) (q := 53) (as := [aI (scr (i + 1)), aI (scr (i + 2)), aI (scr (i + 3))]) (rest := [aI _]) dL_law_1510 rfl s_Law_182 (c_Mod_put hM1 hI.1 hI.2.1 hI.2.2.1 hI.2.2.2.1 hI.2.2.2.2.1 (hsc _) (hsc _) (hsc _)) (by omega) h53 rfl rfl rfl (rmL hcs rfl) (fun r2 w2 h2 => ?_)
  obtain ⟨rfl, hT2⟩ := h2
  refine j_icmpE (tgt := 1708) dL_law_1513 (by decide) ?_
  refine j_wide (k9 := cells + 1) (n9 := slots + 6) (Nat.le_succ _) (Nat.le_add_right _ _) ?_
  exact kont _ _ _ _ _ _ _ _ _ _ ⟨hT1.1.congr (fun j a => hT2.2 j (Or.inl a)), hT2.1, f0, by rw [hT2.2 67 (Or.inr (by omega)), hT1.2 67 (by omega)]; exact hf⟩ (hI.put (hsc _))
set_option maxRecDepth 100000 in
set_option maxHeartbeats 4000000 in
theorem lc_40 {l : Launch} {ad : Nat → Nat} {G : JG} {X : List (Nat × Nat × (Int → Int))} {Z : JZ} {cells slots len : Nat} {scr : Int → Int} {i : Int} {w : AW} {D Di : Int → Int → Int} {n mi hi ni mj : Int} {sh E : Int → Int → Int} (hl9 : l.stackTraces = false) (hX : (1001, len, scr) ∈ X) (hlen : len ≤ 3072) (hi9 : 0 ≤ i ∧ i + 6 ≤ len) (hsc : ∀ j, inI (scr j)) (hcs : cells + 1 ≤ 601024 ∧ slots + 6 ≤ 7293034) (hW : LW w D n mi hi Di ni mj sh E) (hI : Inv D n mi hi Di ni mj sh E) (kont : ∀ (D Di : Int → Int → Int) (n mi hi ni mj : Int) (sh E : Int → Int → Int) (w : AW), LW w D n mi hi Di ni mj sh E → Inv D n mi hi Di ni mj sh E → J l m_Law_law ad G X false Z 68 (cells + 1) (slots + 6) 1708 [some (aR 1001), some (aR 0), some (aR 53), some (aR 67), some (aI i), none, none, none] [] w) : J l m_Law_law ad G X false Z 68 cells slots 1585 [some (aR 1001), some (aR 0), some (aR 53), some (aR 67), some (aI i), none, none, none] [] w := by
  have hB := hI.1
  obtain ⟨hC, hM, f0, hf⟩ := hW
  have hO := hC.1
  refine j_aload_n (pc' := 1586) (z := 0) dL_law_1585 rfl rfl ?_
  refine j_aload_n (pc' := 1587) (z := 1001) dL_law_1586 rfl rfl ?_
  refine j_iload (pc' := 1589) (z := i) dL_law_1587 rfl rfl ?_
  refine j_iconst (pc' := 1590) dL_law_1589 rfl ?_
  refine j_iadd (pc' := 1591) dL_law_1590 rfl ?_
  refine j_xld (pc' := 1592) (f := scr) (n := len) dL_law_1591 rfl hX (by omega) (by omega) ?_
  refine j_aload_n (pc' := 1593) (z := 1001) dL_law_1592 rfl rfl ?_
  refine j_iload (pc' := 1595) (z := i) dL_law_1593 rfl rfl ?_
  refine j_iconst (pc' := 1596) dL_law_1595 rfl ?_
  refine j_iadd (pc' := 1597) dL_law_1596 rfl ?_
  refine j_xld (pc' := 1598) (f := scr) (n := len) dL_law_1597 rfl hX (by omega) (by omega) ?_
  refine j_aload_n (pc' := 1599) (z := 1001) dL_law_1598 rfl rfl ?_
  refine j_iload (pc' := 1601) (z := i) dL_law_1599 rfl rfl ?_
  refine j_iconst (pc' := 1602) dL_law_1601 rfl ?_
  refine j_iadd (pc' := 1603) dL_law_1602 rfl ?_
  refine j_xld (pc' := 1604) (f := scr) (n := len) dL_law_1603 rfl hX (by omega) (by omega) ?_
  refine j_aload_n (pc' := 1605) (z := 1001) dL_law_1604 rfl rfl ?_
  refine j_iload (pc' := 1607) (z := i) dL_law_1605 rfl rfl ?_
  refine j_iconst (pc' := 1608) dL_law_1607 rfl ?_
  refine j_iadd (pc' := 1609) dL_law_1608 rfl ?_
  refine j_xld (pc' := 1610) (f := scr) (n := len) dL_law_1609 rfl hX (by omega) (by omega) ?_
  refine j_aload_n (pc' := 1611) (z := 1001) dL_law_1610 rfl rfl ?_
  refine j_iload (pc' := 1613) (z := i) dL_law_1611 rfl rfl ?_
  refine j_iconst (pc' := 1614) dL_law_1613 rfl ?_
  refine j_iadd (pc' := 1615) dL_law_1614 rfl ?_
  refine j_xld (pc' := 1616) (f := scr) (n := len) dL_law_1615 rfl hX (by omega) (by omega) ?_
  refine j_callV (pc' := 1619) (q := 0) (as := [aI (scr (i + 1)), aI (scr (i + 2)), aI (scr (i + 3)), aI (scr (i + 4)), aI (scr (i + 5))]) (rest := []) dL_law_1616 rfl s_Law_192 (c_Top_copy hC hI.1 hI.2.1 hI.2.2.1 hI.2.2.2.1 (hsc _) (hsc _) (hsc _) (hsc _) (hsc _)) (by omega) hO rfl rfl rfl (rmL hcs rfl) (fun r1 w1 h1 => ?_)
  obtain ⟨rfl, hT1⟩ := h1
  have hM1 := hM.congr (w' := w1) (fun j a b => hT1.2 j a)
  obtain ⟨⟨pc9, ra9, re9, fm9, se9, th9, h53⟩, -⟩ := id hM1
  refine j_aload_n (pc' := 1620) (z := 53) dL_law_1619 rfl rfl ?_
  refine j_aload_n (pc' := 1621) (z := 1001) dL_law_1620 rfl rfl ?_
  refine j_iload (pc' := 1623) (z := i) dL_law_1621 rfl rfl ?_
  refine j_iconst (pc' := 1624) dL_law_1623 rfl ?_
  refine j_iadd (pc' := 1625) dL_law_1624 rfl ?_
  refine j_xld (pc' := 1626) (f := scr) (n := len) dL_law_1625 rfl hX (by omega) (by omega) ?_
  refine j_aload_n (pc' := 1627) (z := 1001) dL_law_1626 rfl rfl ?_
  refine j_iload (pc' := 1629) (z := i) dL_law_1627 rfl rfl ?_
  refine j_iconst (pc' := 1630) dL_law_1629 rfl ?_
  refine j_iadd (pc' := 1631) dL_law_1630 rfl ?_
  refine j_xld (pc' := 1632) (f := scr) (n := len) dL_law_1631 rfl hX (by omega) (by omega) ?_
  refine j_aload_n (pc' := 1633) (z := 1001) dL_law_1632 rfl rfl ?_
  refine j_iload (pc' := 1635) (z := i) dL_law_1633 rfl rfl ?_
  refine j_iconst (pc' := 1636) dL_law_1635 rfl ?_
  refine j_iadd (pc' := 1637) dL_law_1636 rfl ?_
  refine j_xld (pc' := 1638) (f := scr) (n := len) dL_law_1637 rfl hX (by omega) (by omega) ?_
  refine j_aload_n (pc' := 1639) (z := 1001) dL_law_1638 rfl rfl ?_
  refine j_iload (pc' := 1641) (z := i) dL_law_1639 rfl rfl ?_
  refine j_iconst (pc' := 1642) dL_law_1641 rfl ?_
  refine j_iadd (pc' := 1643) dL_law_1642 rfl ?_
  refine j_xld (pc' := 1644) (f := scr) (n := len) dL_law_1643 rfl hX (by omega) (by omega) ?_
  refine j_aload_n (pc' := 1645) (z := 1001) dL_law_1644 rfl rfl ?_
  refine j_iload (pc' := 1647) (z := i) dL_law_1645 rfl rfl ?_
  refine j_iconst (pc' := 1648) dL_law_1647 rfl ?_
  refine j_iadd (pc' := 1649) dL_law_1648 rfl ?_
  refine j_xld (pc' := 1650) (f := scr) (n := len) dL_law_1649 rfl hX (by omega) (by omega) ?_
  refine j_callV (pc' := 1653) (q := 53) (as := [aI (scr (i + 1)), aI (scr (i + 2)), aI (scr (i + 3)), aI (scr (i + 4)), aI (scr (i + 5))]) (rest := [aI _]) dL_law_1650 rfl s_Law_196 (c_Mod_copy hM1 hI.1 hI.2.1 hI.2.2.1 hI.2.2.2.1 hI.2.2.2.2.1 (hsc _) (hsc _) (hsc _) (hsc _) (hsc _)) (by omega) h53 rfl rfl rfl (rmL hcs rfl) (fun r2 w2 h2 => ?_)
  obtain ⟨rfl, hT2⟩ := h2
  refine j_icmpE (tgt := 1708) dL_law_1653 (by decide) ?_
  refine j_wide (k9 := cells + 1) (n9 := slots + 6) (Nat.le_succ _) (Nat.le_add_right _ _) ?_
  exact kont _ _ _ _ _ _ _ _ _ _ ⟨hT1.1.congr (fun j a => hT2.2 j (Or.inl a)), hT2.1, f0, by rw [hT2.2 67 (Or.inr (by omega)), hT1.2 67 (by omega)]; exact hf⟩ hI.copy
set_option maxRecDepth 100000 in
set_option maxHeartbeats 4000000 in
theorem lc_41 {l : Launch} {ad : Nat → Nat} {G : JG} {X : List (Nat × Nat × (Int → Int))} {Z : JZ} {cells slots len : Nat} {scr : Int → Int} {i : Int} {w : AW} {D Di : Int → Int → Int} {n mi hi ni mj : Int} {sh E : Int → Int → Int} (hl9 : l.stackTraces = false) (hX : (1001, len, scr) ∈ X) (hlen : len ≤ 3072) (hi9 : 0 ≤ i ∧ i + 6 ≤ len) (hsc : ∀ j, inI (scr j)) (hcs : cells + 1 ≤ 601024 ∧ slots + 6 ≤ 7293034) (hW : LW w D n mi hi Di ni mj sh E) (hI : Inv D n mi hi Di ni mj sh E) (kont : ∀ (D Di : Int → Int → Int) (n mi hi ni mj : Int) (sh E : Int → Int → Int) (w : AW), LW w D n mi hi Di ni mj sh E → Inv D n mi hi Di ni mj sh E → J l m_Law_law ad G X false Z 68 (cells + 1) (slots + 6) 1708 [some (aR 1001), some (aR 0), some (aR 53), some (aR 67), some (aI i), none, none, none] [] w) : J l m_Law_law ad G X false Z 68 cells slots 1658 [some (aR 1001), some (aR 0), some (aR 53), some (aR 67), some (aI i), none, none, none] [] w := by
  have hB := hI.1
  obtain ⟨hC, hM, f0, hf⟩ := hW
  have hO := hC.1
  refine j_aload_n (pc' := 1659) (z := 0) dL_law_1658 rfl rfl ?_
  refine j_aload_n (pc' := 1660) (z := 1001) dL_law_1659 rfl rfl ?_
  refine j_iload (pc' := 1662) (z := i) dL_law_1660 rfl rfl ?_
  refine j_iconst (pc' := 1663) dL_law_1662 rfl ?_
  refine j_iadd (pc' := 1664) dL_law_1663 rfl ?_
  refine j_xld (pc' := 1665) (f := scr) (n := len) dL_law_1664 rfl hX (by omega) (by omega) ?_
  refine j_callV (pc' := 1668) (q := 0) (as := [aI (scr (i + 1))]) (rest := []) dL_law_1665 rfl s_Law_197 (c_Top_cost hC hI.1 hI.2.1 hI.2.2.1 hI.2.2.2.1 (hsc _)) (by omega) hO rfl rfl rfl (rmL hcs rfl) (fun r1 w1 h1 => ?_)
  obtain ⟨rfl, hT1⟩ := h1
  have hM1 := hM.congr (w' := w1) (fun j a b => hT1.2 j a)
  obtain ⟨⟨pc9, ra9, re9, fm9, se9, th9, h53⟩, -⟩ := id hM1
  refine j_aload_n (pc' := 1669) (z := 53) dL_law_1668 rfl rfl ?_
  refine j_aload_n (pc' := 1670) (z := 1001) dL_law_1669 rfl rfl ?_
  refine j_iload (pc' := 1672) (z := i) dL_law_1670 rfl rfl ?_
  refine j_iconst (pc' := 1673) dL_law_1672 rfl ?_
  refine j_iadd (pc' := 1674) dL_law_1673 rfl ?_
  refine j_xld (pc' := 1675) (f := scr) (n := len) dL_law_1674 rfl hX (by omega) (by omega) ?_
  refine j_callV (pc' := 1678) (q := 53) (as := [aI (scr (i + 1))]) (rest := [aI _]) dL_law_1675 rfl s_Law_200 (c_Mod_cost hM1 hI.1 hI.2.1 hI.2.2.1 hI.2.2.2.1 hI.2.2.2.2.1 (hsc _)) (by omega) h53 rfl rfl rfl (rmL hcs rfl) (fun r2 w2 h2 => ?_)
  obtain ⟨rfl, hT2⟩ := h2
  refine j_icmpE (tgt := 1708) dL_law_1678 (by decide) ?_
  refine j_wide (k9 := cells + 1) (n9 := slots + 6) (Nat.le_succ _) (Nat.le_add_right _ _) ?_
  exact kont _ _ _ _ _ _ _ _ _ _ ⟨hT1.1.congr (fun j a => hT2.2 j (Or.inl a)), hT2.1, f0, by rw [hT2.2 67 (Or.inr (by omega)), hT1.2 67 (by omega)]; exact hf⟩ hI
