section JR4
variable {l : Launch} {M Mc : MI} {ad : Nat → Nat} {G : JG} {X : List (Nat × Nat × (Int → Int))} {al : Bool} {Z : JZ} {N N' cells slots pc pc' tgt : Nat} {L L' : List (Option AV)} {st st' rest as avs : List AV} {w w' : AW} {Φ : Option AV → AW → Prop}
theorem i64_z : (0 : Int64) = Int64.ofInt 0 := rfl
theorem j_idiv {a b : Int} (hd : JD M pc .idiv 1) (hp : pc + 1 = pc') (ha : 0 ≤ a ∧ a ≤ 2147483647) (hb : 0 < b ∧ b ≤ 2147483647) (k : J l M ad G X al Z N cells slots pc' L (aI (a / b) :: st) w) : J l M ad G X al Z N cells slots pc L (aI b :: aI a :: st) w := by
  subst hp
  intro p e s m args below meth c A H locs ls C P D S sz hl
  refine lv_idiv C.1.1 C.1.2.1 hd (fun q => by have := (i32_eq (by omega) (by omega)).mp (q.trans i32_z); omega) ?_
  rw [i32_div ha hb]
  exact k p e s m args below meth c A H locs ls C P D S sz hl
theorem j_irem {a b : Int} (hd : JD M pc .irem 1) (hp : pc + 1 = pc') (ha : 0 ≤ a ∧ a ≤ 2147483647) (hb : 0 < b ∧ b ≤ 2147483647) (k : J l M ad G X al Z N cells slots pc' L (aI (a % b) :: st) w) : J l M ad G X al Z N cells slots pc L (aI b :: aI a :: st) w := by
  subst hp
  intro p e s m args below meth c A H locs ls C P D S sz hl
  refine lv_irem C.1.1 C.1.2.1 hd (fun q => by have := (i32_eq (by omega) (by omega)).mp (q.trans i32_z); omega) ?_
  rw [i32_rem ha hb]
  exact k p e s m args below meth c A H locs ls C P D S sz hl
theorem j_ldiv {a b : Int} (hd : JD M pc .ldiv 1) (hp : pc + 1 = pc') (ha : 0 ≤ a ∧ a ≤ 9223372036854775807) (hb : 0 < b ∧ b ≤ 9223372036854775807) (k : J l M ad G X al Z N cells slots pc' L (aL (a / b) :: st) w) : J l M ad G X al Z N cells slots pc L (aL b :: aL a :: st) w := by
  subst hp
  intro p e s m args below meth c A H locs ls C P D S sz hl
  refine lv_ldiv C.1.1 C.1.2.1 hd (fun q => by have := (i64_eq (by omega) (by omega)).mp (q.trans i64_z); omega) ?_
  rw [i64_div ha hb]
  exact k p e s m args below meth c A H locs ls C P D S sz hl
theorem j_lrem {a b : Int} (hd : JD M pc .lrem 1) (hp : pc + 1 = pc') (ha : 0 ≤ a ∧ a ≤ 9223372036854775807) (hb : 0 < b ∧ b ≤ 9223372036854775807) (k : J l M ad G X al Z N cells slots pc' L (aL (a % b) :: st) w) : J l M ad G X al Z N cells slots pc L (aL b :: aL a :: st) w := by
  subst hp
  intro p e s m args below meth c A H locs ls C P D S sz hl
  refine lv_lrem C.1.1 C.1.2.1 hd (fun q => by have := (i64_eq (by omega) (by omega)).mp (q.trans i64_z); omega) ?_
  rw [i64_rem ha hb]
  exact k p e s m args below meth c A H locs ls C P D S sz hl
theorem j_iand {a b : Int} (hd : JD M pc .iand 1) (hp : pc + 1 = pc') (ha : 0 ≤ a ∧ a ≤ 2147483647) (hb : 0 ≤ b ∧ b ≤ 2147483647) (k : J l M ad G X al Z N cells slots pc' L (aI (andI a b) :: st) w) : J l M ad G X al Z N cells slots pc L (aI b :: aI a :: st) w := by
  subst hp
  intro p e s m args below meth c A H locs ls C P D S sz hl
  refine lv_iand C.1.1 C.1.2.1 hd ?_
  rw [i32_and ha hb]
  exact k p e s m args below meth c A H locs ls C P D S sz hl
theorem j_iandn {a b : Int} (hd : JD M pc .iand 1) (hp : pc + 1 = pc') (ha : 0 ≤ a ∧ a ≤ 2147483647) (hb : 0 ≤ b ∧ b ≤ 2147483647) (k : J l M ad G X al Z N cells slots pc' L (aI (andn a b) :: st) w) : J l M ad G X al Z N cells slots pc L (aI (-1 - b) :: aI a :: st) w := by
  subst hp
  intro p e s m args below meth c A H locs ls C P D S sz hl
  refine lv_iand C.1.1 C.1.2.1 hd ?_
  rw [i32_andn ha hb]
  exact k p e s m args below meth c A H locs ls C P D S sz hl
theorem j_ior {a b : Int} (hd : JD M pc .ior 1) (hp : pc + 1 = pc') (ha : 0 ≤ a ∧ a ≤ 2147483647) (hb : 0 ≤ b ∧ b ≤ 2147483647) (k : J l M ad G X al Z N cells slots pc' L (aI (orI a b) :: st) w) : J l M ad G X al Z N cells slots pc L (aI b :: aI a :: st) w := by
  subst hp
  intro p e s m args below meth c A H locs ls C P D S sz hl
  refine lv_ior C.1.1 C.1.2.1 hd ?_
  rw [i32_or ha hb]
  exact k p e s m args below meth c A H locs ls C P D S sz hl
theorem j_ishr {a b : Int} (hd : JD M pc .ishr 1) (hp : pc + 1 = pc') (ha : 0 ≤ a ∧ a ≤ 2147483647) (hb : 0 ≤ b ∧ b ≤ 31) (k : J l M ad G X al Z N cells slots pc' L (aI (a / 2 ^ b.toNat) :: st) w) : J l M ad G X al Z N cells slots pc L (aI b :: aI a :: st) w := by
  subst hp
  intro p e s m args below meth c A H locs ls C P D S sz hl
  refine lv_ishr C.1.1 C.1.2.1 hd ?_
  rw [i32_shr ha hb]
  exact k p e s m args below meth c A H locs ls C P D S sz hl
theorem j_imask {a m : Int} (q : Nat) (hd : JD M pc .iand 1) (hp : pc + 1 = pc') (hq : q ≤ 31) (hm : m = 2 ^ q - 1) (k : J l M ad G X al Z N cells slots pc' L (aI (a % 2 ^ q) :: st) w) : J l M ad G X al Z N cells slots pc L (aI m :: aI a :: st) w := by
  subst hp
  intro p e s m args below meth c A H locs ls C P D S sz hl
  refine lv_iand C.1.1 C.1.2.1 hd ?_
  rw [i32_mask a q hq hm]
  exact k p e s m args below meth c A H locs ls C P D S sz hl
theorem j_inot {a : Int} (hd : JD M pc .ixor 1) (hp : pc + 1 = pc') (k : J l M ad G X al Z N cells slots pc' L (aI (-1 - a) :: st) w) : J l M ad G X al Z N cells slots pc L (aI (-1) :: aI a :: st) w := by
  subst hp
  intro p e s m args below meth c A H locs ls C P D S sz hl
  refine lv_ixor C.1.1 C.1.2.1 hd ?_
  rw [i32_not]
  exact k p e s m args below meth c A H locs ls C P D S sz hl
theorem j_ishl1 {b : Int} (hd : JD M pc .ishl 1) (hp : pc + 1 = pc') (hb : 0 ≤ b ∧ b ≤ 30) (k : J l M ad G X al Z N cells slots pc' L (aI (2 ^ b.toNat) :: st) w) : J l M ad G X al Z N cells slots pc L (aI b :: aI 1 :: st) w := by
  subst hp
  obtain ⟨b, rfl⟩ := Int.eq_ofNat_of_zero_le hb.1
  intro p e s m args below meth c A H locs ls C P D S sz hl
  refine lv_ishl C.1.1 C.1.2.1 hd ?_
  rw [i32_shl1 b (by omega)]
  exact k p e s m args below meth c A H locs ls C P D S sz hl
theorem j_iushr {a : Int} (b : Nat) (hd : JD M pc .iushr 1) (hp : pc + 1 = pc') (ha : 0 ≤ a ∧ a ≤ 2147483647) (hb : b < 32) (k : J l M ad G X al Z N cells slots pc' L (aI (a / 2 ^ b) :: st) w) : J l M ad G X al Z N cells slots pc L (aI (b : Int) :: aI a :: st) w := by
  subst hp
  intro p e s m args below meth c A H locs ls C P D S sz hl
  exact lv_iushr C.1.1 C.1.2.1 hd (i32_ushr ha hb) (k p e s m args below meth c A H locs ls C P D S sz hl)
theorem j_i2b {a : Int} (hd : JD M pc .i2b 1) (hp : pc + 1 = pc') (k : J l M ad G X al Z N cells slots pc' L (aI (a.bmod 256) :: st) w) : J l M ad G X al Z N cells slots pc L (aI a :: st) w := by
  subst hp
  intro p e s m args below meth c A H locs ls C P D S sz hl
  exact lv_i2b C.1.1 C.1.2.1 hd (i32_b a) (k p e s m args below meth c A H locs ls C P D S sz hl)
theorem j_i2s {a : Int} (hd : JD M pc .i2s 1) (hp : pc + 1 = pc') (k : J l M ad G X al Z N cells slots pc' L (aI (a.bmod 65536) :: st) w) : J l M ad G X al Z N cells slots pc L (aI a :: st) w := by
  subst hp
  intro p e s m args below meth c A H locs ls C P D S sz hl
  exact lv_i2s C.1.1 C.1.2.1 hd (i32_s a) (k p e s m args below meth c A H locs ls C P D S sz hl)
def lcI (a b : Int) : Int := if b < a then 1 else if a = b then 0 else -1
theorem j_lcmp {a b : Int} (hd : JD M pc .lcmp 1) (hp : pc + 1 = pc') (ha : -9223372036854775808 ≤ a ∧ a ≤ 9223372036854775807) (hb : -9223372036854775808 ≤ b ∧ b ≤ 9223372036854775807) (k : J l M ad G X al Z N cells slots pc' L (aI (lcI a b) :: st) w) : J l M ad G X al Z N cells slots pc L (aL b :: aL a :: st) w := by
  subst hp
  intro p e s m args below meth c A H locs ls C P D S sz hl
  refine W.lcmp C.1.1 C.1.2.1 hd ?_
  have ex : lg_cmp (Int64.ofInt a) (Int64.ofInt b) = Int32.ofInt (lcI a b) := by
    unfold lg_cmp lcI
    simp only [gt_iff_lt, i64_lt hb ha, i64_eq ha hb]
    split
    · rfl
    · split <;> rfl
  rw [ex]
  exact k p e s m args below meth c A H locs ls C P D S sz hl
-- Math
theorem jcat_sum : ∀ (st : List AV), ((st.map (jv ad)).map fun v => v.category).sum = (st.map jcat).sum
  | [] => rfl
  | v :: r => by simp only [List.map_cons, List.sum_cons, jcat_sum r, jv_cat]
theorem j_mmax {a b : Int} {idx : Nat} (hd : JD M pc (.invokestatic idx) 3) (hp : pc + 3 = pc') (hs : SiteM M.1.cls idx Lib.Math.max.name Lib.Math.max.code 2) (hr : (decide (1 ≤ M.2.2.2.2.frames) && decide ((st.map jcat).sum + 13 ≤ M.2.2.2.2.locals) && decide (cells ≤ M.2.2.2.2.cells) && decide (slots ≤ M.2.2.2.2.slots)) = true) (ha : -2147483648 ≤ a ∧ a ≤ 2147483647) (hb : -2147483648 ≤ b ∧ b ≤ 2147483647) (k : J l M ad G X al Z N cells slots pc' L (aI (max a b) :: st) w) : J l M ad G X al Z N cells slots pc L (aI b :: aI a :: st) w := by
  subst hp
  simp only [Bool.and_eq_true, decide_eq_true_eq] at hr
  intro p e s m args below meth c A H locs ls C P D S sz hl
  have hts := fun w hw => C.1.2.2.2.2 w (hs w hw)
  refine va_mmax C.1.1 C.1.2.1 (C.1.2.2.1.trans hl.1.symm) C.1.2.2.2.1 (hts _ (by simp)) (hts _ (by simp)) (hts _ (by simp)) (hts _ (by simp)) hr.1.1.1 (by rw [jcat_sum]; exact hr.1.1.2) hr.1.2 hr.2 hd ?_
  have ex : (if Int32.ofInt a < Int32.ofInt b then Int32.ofInt b else Int32.ofInt a) = Int32.ofInt (max a b) := by
    simp only [i32_lt ha hb]
    split <;> congr 1 <;> omega
  rw [ex]
  exact k p e s m args below meth c A H locs ls C P D S sz hl
theorem j_mmin {a b : Int} {idx : Nat} (hd : JD M pc (.invokestatic idx) 3) (hp : pc + 3 = pc') (hs : SiteM M.1.cls idx Lib.Math.min.name Lib.Math.min.code 2) (hr : (decide (1 ≤ M.2.2.2.2.frames) && decide ((st.map jcat).sum + 13 ≤ M.2.2.2.2.locals) && decide (cells ≤ M.2.2.2.2.cells) && decide (slots ≤ M.2.2.2.2.slots)) = true) (ha : -2147483648 ≤ a ∧ a ≤ 2147483647) (hb : -2147483648 ≤ b ∧ b ≤ 2147483647) (k : J l M ad G X al Z N cells slots pc' L (aI (min a b) :: st) w) : J l M ad G X al Z N cells slots pc L (aI b :: aI a :: st) w := by
  subst hp
  simp only [Bool.and_eq_true, decide_eq_true_eq] at hr
  intro p e s m args below meth c A H locs ls C P D S sz hl
  have hts := fun w hw => C.1.2.2.2.2 w (hs w hw)
  refine va_mmin C.1.1 C.1.2.1 (C.1.2.2.1.trans hl.1.symm) C.1.2.2.2.1 (hts _ (by simp)) (hts _ (by simp)) (hts _ (by simp)) (hts _ (by simp)) hr.1.1.1 (by rw [jcat_sum]; exact hr.1.1.2) hr.1.2 hr.2 hd ?_
  have ex : (if Int32.ofInt b < Int32.ofInt a then Int32.ofInt b else Int32.ofInt a) = Int32.ofInt (min a b) := by
    simp only [i32_lt hb ha]
    split <;> congr 1 <;> omega
  rw [ex]
  exact k p e s m args below meth c A H locs ls C P D S sz hl
def iab (a : Int) : Int := if 0 ≤ a then a else 0 - a
theorem j_mabs {a : Int} {idx : Nat} (hd : JD M pc (.invokestatic idx) 3) (hp : pc + 3 = pc') (hs : SiteM M.1.cls idx Lib.Math.abs.name Lib.Math.abs.code 1) (hr : (decide (1 ≤ M.2.2.2.2.frames) && decide ((st.map jcat).sum + 13 ≤ M.2.2.2.2.locals) && decide (cells ≤ M.2.2.2.2.cells) && decide (slots ≤ M.2.2.2.2.slots)) = true) (ha : -2147483648 ≤ a ∧ a ≤ 2147483647) (k : J l M ad G X al Z N cells slots pc' L (aI (iab a) :: st) w) : J l M ad G X al Z N cells slots pc L (aI a :: st) w := by
  subst hp
  simp only [Bool.and_eq_true, decide_eq_true_eq] at hr
  intro p e s m args below meth c A H locs ls C P D S sz hl
  have hts := fun w hw => C.1.2.2.2.2 w (hs w hw)
  refine va_mabs C.1.1 C.1.2.1 (C.1.2.2.1.trans hl.1.symm) C.1.2.2.2.1 (hts _ (by simp)) (hts _ (by simp)) (hts _ (by simp)) (hts _ (by simp)) hr.1.1.1 (by rw [jcat_sum]; first | exact hr.1.1.2 | omega) hr.1.2 hr.2 hd ?_
  have ex : (if 0 ≤ Int32.ofInt a then Int32.ofInt a else 0 - Int32.ofInt a) = Int32.ofInt (iab a) := by
    unfold iab
    rw [i32_z]
    simp only [i32_le (by omega : (-2147483648 : Int) ≤ 0 ∧ (0 : Int) ≤ 2147483647) ha]
    split
    · rfl
    · rw [← Int32.ofInt_sub]
  rw [ex]
  exact k p e s m args below meth c A H locs ls C P D S sz hl
-- System.arraycopy
def cpyI (f g : Int → Int) (sp dp n : Int) : Int → Int := fun j => if dp ≤ j ∧ j < dp + n then f (sp + (j - dp)) else g j
theorem j_acopy {idx q0 q1 n0 n1 : Nat} {f g : Int → Int} {sp dp n : Int} (hal : al = false) (hd : JD M pc (.invokestatic idx) 3) (hp : pc + 3 = pc') (hs : SiteA M.1.cls idx) (hr : (decide (1 ≤ M.2.2.2.2.frames) && decide ((st.map jcat).sum + (nativeFrameWords "java/lang/System" "arraycopy" 5 + 11) ≤ M.2.2.2.2.locals)) = true) (hq0 : q0 < N) (hq1 : q1 < N) (h0 : w q0 = eI n0 f) (h1 : w q1 = eI n1 g) (hsp : 0 ≤ sp) (hdp : 0 ≤ dp) (hn : 0 ≤ n) (hsn : sp + n ≤ n0) (hdn : dp + n ≤ n1) (hN0 : n0 ≤ 100000) (hN1 : n1 ≤ 100000) (k : J l M ad G X al Z N cells slots pc' L st (up w q1 (eI n1 (cpyI f g sp dp n)))) : J l M ad G X al Z N cells slots pc L (aI n :: aI dp :: aR q1 :: aI sp :: aR q0 :: st) w := by
  subst hp
  simp only [Bool.and_eq_true, decide_eq_true_eq] at hr
  intro p e s m args below meth c A H locs ls C P D S sz hl
  have hts := fun w hw => C.1.2.2.2.2 w (hs w hw)
  have cl : ∀ z : Int, 0 ≤ z → z ≤ 100000 → ¬ Int32.ofInt z < 0 ∧ (Int32.ofInt z).toNatClampNeg = z.toNat := by
    intro z hz hz2
    have ex : (Int32.ofInt z).toInt = z := Int32.toInt_ofInt_of_le (by omega) (by omega)
    refine ⟨fun q => ?_, by show (Int32.ofInt z).toInt.toNat = _; rw [ex]⟩
    rw [Int32.lt_iff_toInt_lt, ex] at q
    have : (0 : Int32).toInt = 0 := rfl
    omega
  obtain ⟨a1, a2⟩ := cl sp hsp (by omega)
  obtain ⟨b1, b2⟩ := cl dp hdp (by omega)
  obtain ⟨c1, c2⟩ := cl n hn (by omega)
  refine va_copyi (D := (G.1, G.2.1)) (tys := jtys G.2.2) (ty := .int) C.1.1 C.1.2.1 (C.1.2.2.1.trans hl.1.symm) C.1.2.2.2.1 (hts _ (by simp)) (hts _ (by simp)) (hts _ (by simp)) (hts _ (by simp)) C.2.2.2.2.1.1 P D S q0 q1 0 0 (jw_get' hq0 h0) (jw_get' hq1 h1) rfl rfl rfl a1 b1 c1 (by rw [a2, c2]; omega) (by rw [b2, c2]; omega) (fun i _ => rfl) hr.1 (by rw [jcat_sum]; exact hr.2) hd (fun H1 locs1 P1 D1 S1 => ?_)
  have ex : (jw G.2.2 ad w N).set q1 (ad q1, .inl (G.2.2 0, n1, .inl (va_cpy (fun j : Nat => Int32.ofInt (f j)) (fun j : Nat => Int32.ofInt (g j)) (Int32.ofInt sp).toNatClampNeg (Int32.ofInt dp).toNatClampNeg (Int32.ofInt n).toNatClampNeg))) = jw G.2.2 ad (up w q1 (eI n1 (cpyI f g sp dp n))) N := by
    rw [← jw_set]
    congr 3
    refine congrArg (fun f9 => (G.2.2 0, n1, Sum.inl f9)) ?_
    funext j
    rw [a2, b2, c2]
    unfold va_cpy cpyI
    by_cases hj : dp.toNat ≤ j ∧ j < dp.toNat + n.toNat
    · rw [if_pos hj, if_pos (by omega)]
      show Int32.ofInt (f ((sp.toNat + (j - dp.toNat) : Nat) : Int)) = _
      rw [show ((sp.toNat + (j - dp.toNat) : Nat) : Int) = sp + ((j : Int) - dp) by omega]
    · rw [if_neg hj, if_neg (by omega)]
  rw [ex] at P1 D1
  exact k p e s m args below meth c A H1 locs1 ls C P1 D1 S1 (fun h => by rw [hal] at h; cases h) hl
-- Object.<init>
theorem j_oinit {idx q : Nat} (hd : JD M pc (.invokespecial idx) 3) (hp : pc + 3 = pc') (hs : SiteOI M.1.cls idx) (hr : (decide (1 ≤ M.2.2.2.2.frames) && decide ((st.map jcat).sum + 12 ≤ M.2.2.2.2.locals)) = true) (k : J l M ad G X al Z N cells slots pc' L st w) : J l M ad G X al Z N cells slots pc L (aR q :: st) w := by
  subst hp
  simp only [Bool.and_eq_true, decide_eq_true_eq] at hr
  intro p e s m args below meth c A H locs ls C P D S sz hl
  have hts := fun w hw => C.1.2.2.2.2 w (hs w hw)
  refine W.objInit (a := ad q) (rest := st.map (jv ad)) C.1.1 C.1.2.1 C.1.2.2.2.1 (hts _ (by simp)) (hts _ (by simp)) (hts _ (by simp)) rfl (by rw [C.1.2.2.1]; exact hl.1) rfl hd hr.1 (by show 2 * 0 + _ + 12 ≤ _; rw [jcat_sum]; omega) (k p e s m args below meth c A H locs ls C P D S sz hl)
-- calls
theorem jws_good (h : Cond.code Mc.1 Mc.2.1 Mc.2.2.1 Mc.2.2.2.1 ∈ gT) : GoodIn gT (jws Mc) := by
  intro w hw
  rcases List.mem_cons.mp hw with rfl | hw
  · exact ⟨h, good_of_word (gT_good h)⟩
  · exact ⟨hw, good_of_word (gT_good hw)⟩
theorem j_afree {A : Nat → Prop} {s : State} {H : Heap} {locs : List Loc} (D : jD G ad w N A) (S : va_S A s.heap H locs) (hA : ∀ q, s.heap.size ≤ q → A q) : ∀ q, va_A (jw G.2.2 ad w N) H.size q → A q := by
  intro q h
  rcases h with ⟨k, e, h⟩ | h
  · exact D.2 k (q, e) h
  · exact hA q (Nat.le_trans S.1 h)
theorem j_pre {p : Program} {s : State} {m : MethodId} {args : Array Value} {meth : Method} {c : Code} {A : Nat → Prop} {H : Heap} {locs : List Loc} (C : JX M ad G X al p s m args meth c A) (P : jP G ad w N H) (D : jD G ad w N A) (S : va_S A s.heap H locs) (sz : al = true → H.size = ad N) (avs : List AV) (U : State) (hU : U.heap = H) (hW : s.WarmedH U.vm) : jPc ad G al N H.size avs w (avs.map (jv ad)).toArray U := by
  subst hU
  exact ⟨rfl, rfl, P, D.weaken (fun _ _ _ _ => trivial), C.2.2.2.2.1.warm hW, C.2.2.2.2.2.2.1.go hW.alike (fun a h1 h2 => S.2.1 a h1 h2) (j_afree D S C.2.2.2.2.2.1), fun h => ⟨sz h, C.2.2.2.2.2.2.2.2 h⟩⟩
theorem j_back {p : Program} {e : Env} {R : Room} {s : State} {m : MethodId} {args a : Array Value} {below : List Frame} {meth : Method} {c : Code} {A A1 : Nat → Prop} {H : Heap} {locs : List Loc} {ls : Array Slot} {st0 rs : List Value} {mc ms : Nat} {Q : State → Prop}
    (hr : va_Run p l e R s m args below meth c H locs cells slots mc ms (F0 m pc ls st0) rs (jQ ad G al N' A1 Φ a) A1) (S : va_S A s.heap H locs) (hA : ∀ q, A1 q → A q)
    (kk : ∀ (r : Option AV) (w' : AW) (H1 : Heap) (locs1 : List Loc), Φ r w' → jP G ad w' N' H1 → jD G ad w' N' A → (al = true → H1.size = ad N') → va_S A s.heap H1 locs1 → W p l e R s m args below meth c H1 locs1 (cells + mc) (slots + ms) Q (F0 m (pc + 3) ls ((r.map (jv ad)).toList ++ rs))) : W p l e R s m args below meth c H locs cells slots Q (F0 m pc ls st0) := by
  intro T hT X
  obtain ⟨v, st₀, t, T', LL, h0, X', hL, e1, e2, ⟨⟨r, w', hv, hp, hP, hD, hsz⟩, hz, hk⟩, st⟩ := hr T hT X
  cases hv
  rw [h0] at hz hk
  obtain ⟨t2, a1, b1⟩ := kk r w' T'.heap (locs ++ LL) hp (by rw [e1]; exact hP) (hD.weaken (fun _ _ _ h => hA _ h)) (fun h => by rw [e1]; exact hsz h)
    ⟨Nat.le_trans S.1 (by rw [e1]; exact hz), fun q h1 h2 => by rw [e1, hk q (Nat.lt_of_lt_of_le h1 S.1) (fun z => h2 (hA q z))]; exact S.2.1 q h1 h2, fun q hq => by
      rcases List.mem_append.mp hq with h | h
      · exact S.2.2 q h
      · exact hA _ (hL q h)⟩ T' rfl X'
  exact ⟨t2, st t2 a1, b1⟩
/-- the room that a call wants -/
abbrev rmB (M Mc : MI) (cells slots : Nat) (rest : List AV) : Bool := decide (Mc.2.2.2.2.frames + 1 ≤ M.2.2.2.2.frames) && decide (8 + (Mc.2.2.1 + 11) + Mc.2.2.2.2.locals ≤ M.2.2.2.2.locals) && decide ((rest.map jcat).sum ≤ 8) && decide (cells + Mc.2.2.2.2.cells ≤ M.2.2.2.2.cells) && decide (slots + Mc.2.2.2.2.slots ≤ M.2.2.2.2.slots)
theorem jst_rev (as : List AV) (rest : List AV) : (as.reverse ++ rest).map (jv ad) = (as.map (jv ad)).reverse ++ rest.map (jv ad) := by rw [List.map_append, List.map_reverse]
theorem jrt (r : Option AV) (rest : List AV) : (r.map (jv ad)).toList ++ rest.map (jv ad) = (r.toList ++ rest).map (jv ad) := by cases r <;> rfl
theorem j_callS {idx n : Nat} (hd : JD M pc (.invokestatic idx) 3) (hp : pc + 3 = pc') (hs : SiteS M.1.cls idx Mc n) (hc : Call l Mc al N N' as w Φ) (hn : as.length = n) (hst : as.reverse ++ rest = st) (hr : rmB M Mc cells slots rest = true) (kk : ∀ (r : Option AV) (w' : AW), Φ r w' → J l M ad G X al Z N' (cells + Mc.2.2.2.2.cells) (slots + Mc.2.2.2.2.slots) pc' L (r.toList ++ rest) w') : J l M ad G X al Z N cells slots pc L st w := by
  subst hp; subst hst
  simp only [Bool.and_eq_true, decide_eq_true_eq] at hr
  obtain ⟨hws, hdo⟩ := hs
  intro p e s m args below meth c A H locs ls C P D S sz hl
  have hts := fun w hw => C.1.2.2.2.2 w (hws w hw)
  rw [jst_rev]
  refine j_back (va_runS (As := as.map (jv ad)) (rest := rest.map (jv ad)) C.1 (hc G ad H.size) ⟨callB_of n C.1.2.2.2.2 (jws_good (hws _ (by simp))) rfl rfl rfl (hts _ (by simp)) (hts _ (by simp)) hdo ⟨hr.1.1.1.1, hr.1.1.1.2⟩, hts _ (by simp)⟩ ⟨jPc_blind, j_pre C P D S sz as⟩ rfl (by rw [List.length_map]; exact hn) hl.1 rfl (lv_room (by rw [jcat_sum]; exact hr.1.1.2)) hd ⟨hr.1.2, hr.2⟩) S (j_afree D S C.2.2.2.2.2.1) (fun r w' H1 locs1 hΦ hP hD hz hS => ?_)
  rw [jrt]
  exact kk r w' hΦ p e s m args below meth c A H1 locs1 ls C hP hD hS hz hl
theorem j_callSN {idx n : Nat} (hd : JD M pc (.invokestatic idx) 3) (hp : pc + 3 = pc') (hs : SiteSN M.1.cls idx Mc n) (hc : Call l Mc al N N' as w Φ) (hn : as.length = n) (hst : as.reverse ++ rest = st) (hr : rmB M Mc cells slots rest = true) (kk : ∀ (r : Option AV) (w' : AW), Φ r w' → J l M ad G X al Z N' (cells + Mc.2.2.2.2.cells) (slots + Mc.2.2.2.2.slots) pc' L (r.toList ++ rest) w') : J l M ad G X al Z N cells slots pc L st w := by
  subst hp; subst hst
  simp only [Bool.and_eq_true, decide_eq_true_eq] at hr
  obtain ⟨hws, hdo, host, hnest⟩ := hs
  intro p e s m args below meth c A H locs ls C P D S sz hl
  have hts := fun w hw => C.1.2.2.2.2 w (hws w hw)
  rw [jst_rev]
  refine j_back (va_runSN (As := as.map (jv ad)) (rest := rest.map (jv ad)) C.1 (hc G ad H.size) ⟨va_cnB n C.1.2.2.2.2 (jws_good (hws _ (by simp))) rfl rfl rfl (C.2.2.2.2.1.2.1 _ hnest) (hts _ (by simp)) hdo ⟨hr.1.1.1.1, hr.1.1.1.2⟩, hts _ (by simp), trivial⟩ ⟨jPc_blind, j_pre C P D S sz as⟩ rfl (by rw [List.length_map]; exact hn) hl.1 rfl (lv_room (by rw [jcat_sum]; exact hr.1.1.2)) hd ⟨hr.1.2, hr.2⟩) S (j_afree D S C.2.2.2.2.2.1) (fun r w' H1 locs1 hΦ hP hD hz hS => ?_)
  rw [jrt]
  exact kk r w' hΦ p e s m args below meth c A H1 locs1 ls C hP hD hS hz hl
theorem j_recv {p : Program} {s : State} {m : MethodId} {args : Array Value} {meth : Method} {c : Code} {A : Nat → Prop} {H : Heap} {q ci : Nat} {fs : List AV} {cn : vw_C} (C : JX M ad G X al p s m args meth c A) (P : jP G ad w N H) (hq : q < N) (hw : w q = eO ci fs) (hci : classes[ci]? = some cn) : ∃ cell : Cell, H[ad q]? = some cell ∧ cell.vm.isStatics = false ∧ s.vm.findClass cn.1 = some cell.cls :=
  va_recv C.2.2.2.2.1.1 P hci (jw_get' hq hw)
theorem j_callV {idx n q ci : Nat} {fs : List AV} (hd : JD M pc (.invokevirtual idx) 3) (hp : pc + 3 = pc') (hs : SiteV M.1.cls idx Mc n) (hc : Call l Mc al N N' (aR q :: as) w Φ) (hq : q < N) (hw : w q = eO ci fs) (hci : (classes[ci]?.map (·.1)) = some Mc.1.cls) (hn : as.length = n) (hst : as.reverse ++ (aR q :: rest) = st) (hr : rmB M Mc cells slots rest = true) (kk : ∀ (r : Option AV) (w' : AW), Φ r w' → J l M ad G X al Z N' (cells + Mc.2.2.2.2.cells) (slots + Mc.2.2.2.2.slots) pc' L (r.toList ++ rest) w') : J l M ad G X al Z N cells slots pc L st w := by
  subst hp; subst hst
  simp only [Bool.and_eq_true, decide_eq_true_eq] at hr
  obtain ⟨hws, hdo⟩ := hs
  obtain ⟨cn, hcn, hcn2⟩ := Option.map_eq_some_iff.mp hci
  intro p e s m args below meth c A H locs ls C P D S sz hl
  have hts := fun w hw => C.1.2.2.2.2 w (hws w hw)
  have hrv := j_recv C P hq hw hcn
  rw [hcn2] at hrv
  rw [jst_rev]
  refine j_back (va_runV (b := ad q) (As := as.map (jv ad)) (rest := rest.map (jv ad)) C.1 (hc G ad H.size) ⟨callB_of n C.1.2.2.2.2 (jws_good (hws _ (by simp))) rfl rfl rfl (hts _ (by simp)) (hts _ (by simp)) hdo ⟨hr.1.1.1.1, hr.1.1.1.2⟩, hts _ (by simp), hts _ (by simp)⟩ ⟨jPc_blind, hrv, j_pre C P D S sz (aR q :: as)⟩ rfl (by rw [List.length_map]; exact hn) hl.1 rfl (lv_room (by rw [jcat_sum]; exact hr.1.1.2)) hd ⟨hr.1.2, hr.2⟩) S (j_afree D S C.2.2.2.2.2.1) (fun r w' H1 locs1 hΦ hP hD hz hS => ?_)
  rw [jrt]
  exact kk r w' hΦ p e s m args below meth c A H1 locs1 ls C hP hD hS hz hl
theorem j_callO {idx n q ci : Nat} {fs : List AV} {Cn : String} {Mx : MI} (hd : JD M pc (.invokevirtual idx) 3) (hp : pc + 3 = pc') (hs : SiteO M.1.cls idx Cn Mx.1 Mc n) (hx : SiteO M.1.cls idx Mx.1.cls Mx.1 Mx n) (hc : Call l Mc al N N' (aR q :: as) w Φ) (hq : q < N) (hw : w q = eO ci fs) (hci : (classes[ci]?.map (·.1)) = some Cn) (hn : as.length = n) (hst : as.reverse ++ (aR q :: rest) = st) (hr : rmB M Mc cells slots rest = true) (kk : ∀ (r : Option AV) (w' : AW), Φ r w' → J l M ad G X al Z N' (cells + Mc.2.2.2.2.cells) (slots + Mc.2.2.2.2.slots) pc' L (r.toList ++ rest) w') : J l M ad G X al Z N cells slots pc L st w := by
  subst hp; subst hst
  simp only [Bool.and_eq_true, decide_eq_true_eq] at hr
  obtain ⟨hws, hdo⟩ := hs
  obtain ⟨cn, hcn, hcn2⟩ := Option.map_eq_some_iff.mp hci
  intro p e s m args below meth c A H locs ls C P D S sz hl
  have hts := fun w hw => C.1.2.2.2.2 w (hws w hw)
  have hrv := j_recv C P hq hw hcn
  rw [hcn2] at hrv
  rw [jst_rev]
  have hgi : GoodIn gT (va_wsO M.1.cls idx Cn Mx.1.cls Mx.1 Mc.1 (jws Mc)) := by
    intro w9 hw9
    unfold va_wsO at hw9
    rcases List.mem_append.mp hw9 with h9 | h9
    · have : w9 ∈ gT := by
        rcases List.mem_cons.mp h9 with rfl | h9
        · exact hws _ (by simp)
        rcases List.mem_cons.mp h9 with rfl | h9
        · exact hws _ (by simp)
        rcases List.mem_cons.mp h9 with rfl | h9
        · exact hws (.instanceMethod Mx.1) (by simp)
        rcases List.mem_cons.mp h9 with rfl | h9
        · exact hws _ (by simp)
        rcases List.mem_cons.mp h9 with rfl | h9
        · exact hws _ (by simp)
        rcases List.mem_cons.mp h9 with rfl | h9
        · exact hws _ (by simp)
        cases h9
      exact ⟨this, good_of_word (gT_good this)⟩
    · exact jws_good (hws _ (by simp)) w9 h9
  refine j_back (va_runU (b := ad q) (As := as.map (jv ad)) (rest := rest.map (jv ad)) C.1 (hc G ad H.size) (va_cwO n C.1.2.2.2.2 hgi rfl rfl rfl (hx.1 (.code Mx.1 Mx.2.1 Mx.2.2.1 Mx.2.2.2.1) (by simp)) hdo ⟨hr.1.1.1.1, hr.1.1.1.2⟩) ⟨jPc_blind, hrv, j_pre C P D S sz (aR q :: as)⟩ rfl (by rw [List.length_map]; exact hn) hl.1 rfl (lv_room (by rw [jcat_sum]; exact hr.1.1.2)) hd ⟨hr.1.2, hr.2⟩) S (j_afree D S C.2.2.2.2.2.1) (fun r w' H1 locs1 hΦ hP hD hz hS => ?_)
  rw [jrt]
  exact kk r w' hΦ p e s m args below meth c A H1 locs1 ls C hP hD hS hz hl
theorem j_callU {idx n q ci : Nat} {fs : List AV} (hd : JD M pc (.invokespecial idx) 3) (hp : pc + 3 = pc') (hs : SiteU M.1.cls idx Mc n) (hc : Call l Mc al N N' (aR q :: as) w Φ) (hq : q < N) (hw : w q = eO ci fs) (hci : (classes[ci]?).isSome = true) (hn : as.length = n) (hst : as.reverse ++ (aR q :: rest) = st) (hr : rmB M Mc cells slots rest = true) (kk : ∀ (r : Option AV) (w' : AW), Φ r w' → J l M ad G X al Z N' (cells + Mc.2.2.2.2.cells) (slots + Mc.2.2.2.2.slots) pc' L (r.toList ++ rest) w') : J l M ad G X al Z N cells slots pc L st w := by
  subst hp; subst hst
  simp only [Bool.and_eq_true, decide_eq_true_eq] at hr
  obtain ⟨hws, hdo, hdo2⟩ := hs
  obtain ⟨cn, hcn⟩ := Option.isSome_iff_exists.mp hci
  intro p e s m args below meth c A H locs ls C P D S sz hl
  have hts := fun w hw => C.1.2.2.2.2 w (hws w hw)
  have hrv := j_recv C P hq hw hcn
  have hat := (C.2.2.2.2.1.1.1 ci cn hcn).2
  rw [jst_rev]
  have hgi : GoodIn gT (va_wsSU M.1.cls idx Mc.1 (jws Mc)) := by
    intro w9 hw9
    unfold va_wsSU at hw9
    rcases List.mem_append.mp hw9 with h9 | h9
    · have : w9 ∈ gT := hws w9 (List.mem_cons_of_mem _ h9)
      exact ⟨this, good_of_word (gT_good this)⟩
    · exact jws_good (hws _ (by simp)) w9 h9
  refine j_back (va_runSU (b := ad q) (As := as.map (jv ad)) (rest := rest.map (jv ad)) hat C.1 (hc G ad H.size) (va_cwSU n C.1.2.2.2.2 hgi rfl rfl rfl ⟨hdo, hdo2⟩ ⟨hr.1.1.1.1, hr.1.1.1.2⟩) ⟨jPc_blind, hrv, j_pre C P D S sz (aR q :: as)⟩ rfl (by rw [List.length_map]; exact hn) hl.1 rfl (lv_room (by rw [jcat_sum]; exact hr.1.1.2)) hd ⟨hr.1.2, hr.2⟩) S (j_afree D S C.2.2.2.2.2.1) (fun r w' H1 locs1 hΦ hP hD hz hS => ?_)
  rw [jrt]
  exact kk r w' hΦ p e s m args below meth c A H1 locs1 ls C hP hD hS hz hl
/-- an answer that is known, and the world behind -/
def rt (r0 : Option AV) (w0 : AW) : Option AV → AW → Prop := fun r w' => r = r0 ∧ w' = w0
theorem jdet {r0 : Option AV} {w0 : AW} (hst : r0.toList ++ rest = st') (k : J l M ad G X al Z N cells slots pc L st' w0) : ∀ (r : Option AV) (w' : AW), rt r0 w0 r w' → J l M ad G X al Z N cells slots pc L (r.toList ++ rest) w' := by
  rintro r w' ⟨rfl, rfl⟩
  rw [hst]
  exact k
theorem rt_rfl {r0 : Option AV} {w0 : AW} : rt r0 w0 r0 w0 := ⟨rfl, rfl⟩
theorem rt_eq {a b : Int} {w0 : AW} (h : a = b) : rt (some (aI b)) w0 (some (aI a)) w0 := by subst h; exact rt_rfl
end JR4
