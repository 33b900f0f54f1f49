section JR2
variable {l : Launch} {M Mc : MI} {ad : Nat → Nat} {G : JG} {X : List (Nat × Nat × (Int → Int))} {al : Bool} {Z : JZ} {N N' cells slots pc pc' tgt : Nat} {L L' : List (Option AV)} {st rest : List AV} {w : AW}
theorem i32_le {a b : Int} (ha : -2147483648 ≤ a ∧ a ≤ 2147483647) (hb : -2147483648 ≤ b ∧ b ≤ 2147483647) : Int32.ofInt a ≤ Int32.ofInt b ↔ a ≤ b := by
  rw [Int32.le_iff_toInt_le, Int32.toInt_ofInt_of_le (by omega) (by omega), Int32.toInt_ofInt_of_le (by omega) (by omega)]
theorem i32_lt {a b : Int} (ha : -2147483648 ≤ a ∧ a ≤ 2147483647) (hb : -2147483648 ≤ b ∧ b ≤ 2147483647) : Int32.ofInt a < Int32.ofInt b ↔ a < b := by
  rw [Int32.lt_iff_toInt_lt, Int32.toInt_ofInt_of_le (by omega) (by omega), Int32.toInt_ofInt_of_le (by omega) (by omega)]
theorem i32_eq {a b : Int} (ha : -2147483648 ≤ a ∧ a ≤ 2147483647) (hb : -2147483648 ≤ b ∧ b ≤ 2147483647) : Int32.ofInt a = Int32.ofInt b ↔ a = b := by
  rw [← Int32.toInt_inj, Int32.toInt_ofInt_of_le (by omega) (by omega), Int32.toInt_ofInt_of_le (by omega) (by omega)]
theorem i64_lt {a b : Int} (ha : -9223372036854775808 ≤ a ∧ a ≤ 9223372036854775807) (hb : -9223372036854775808 ≤ b ∧ b ≤ 9223372036854775807) : Int64.ofInt a < Int64.ofInt b ↔ a < b := by
  rw [Int64.lt_iff_toInt_lt, Int64.toInt_ofInt_of_le (by omega) (by omega), Int64.toInt_ofInt_of_le (by omega) (by omega)]
theorem i64_eq {a b : Int} (ha : -9223372036854775808 ≤ a ∧ a ≤ 9223372036854775807) (hb : -9223372036854775808 ≤ b ∧ b ≤ 9223372036854775807) : Int64.ofInt a = Int64.ofInt b ↔ a = b := by
  rw [← Int64.toInt_inj, Int64.toInt_ofInt_of_le (by omega) (by omega), Int64.toInt_ofInt_of_le (by omega) (by omega)]
theorem i32_z : (0 : Int32) = Int32.ofInt 0 := rfl
theorem j_icmp_eq {a b off : Int} (hd : JD M pc (.if_icmp .eq off) 3) (ht : (pc : Int) + off = (tgt : Int)) (hp : pc + 3 = pc') (ha : -2147483648 ≤ a ∧ a ≤ 2147483647) (hb : -2147483648 ≤ b ∧ b ≤ 2147483647) (k1 : a = b → J l M ad G X al Z N cells slots tgt L st w) (k2 : ¬ a = b → J l M ad G X al Z N cells slots pc' L st w) : J l M ad G X al Z N cells slots pc L (aI b :: aI a :: st) w := by
  subst hp
  intro p e s m args below meth c A H locs ls C P D S sz hl
  exact lv_icmp_eq C.1.1 C.1.2.1 hd ht (fun h => k1 ((i32_eq ha hb).mp h) p e s m args below meth c A H locs ls C P D S sz hl) (fun h => k2 (fun q => h ((i32_eq ha hb).mpr q)) p e s m args below meth c A H locs ls C P D S sz hl)
theorem j_icmp_ne {a b off : Int} (hd : JD M pc (.if_icmp .ne off) 3) (ht : (pc : Int) + off = (tgt : Int)) (hp : pc + 3 = pc') (ha : -2147483648 ≤ a ∧ a ≤ 2147483647) (hb : -2147483648 ≤ b ∧ b ≤ 2147483647) (k1 : ¬ a = b → J l M ad G X al Z N cells slots tgt L st w) (k2 : a = b → J l M ad G X al Z N cells slots pc' L st w) : J l M ad G X al Z N cells slots pc L (aI b :: aI a :: st) w := by
  subst hp
  intro p e s m args below meth c A H locs ls C P D S sz hl
  exact lv_icmp_ne C.1.1 C.1.2.1 hd ht (fun h => k1 (fun q => h ((i32_eq ha hb).mpr q)) p e s m args below meth c A H locs ls C P D S sz hl) (fun h => k2 ((i32_eq ha hb).mp h) p e s m args below meth c A H locs ls C P D S sz hl)
theorem j_icmp_lt {a b off : Int} (hd : JD M pc (.if_icmp .lt off) 3) (ht : (pc : Int) + off = (tgt : Int)) (hp : pc + 3 = pc') (ha : -2147483648 ≤ a ∧ a ≤ 2147483647) (hb : -2147483648 ≤ b ∧ b ≤ 2147483647) (k1 : a < b → J l M ad G X al Z N cells slots tgt L st w) (k2 : b ≤ a → J l M ad G X al Z N cells slots pc' L st w) : J l M ad G X al Z N cells slots pc L (aI b :: aI a :: st) w := by
  subst hp
  intro p e s m args below meth c A H locs ls C P D S sz hl
  exact lv_icmp_lt C.1.1 C.1.2.1 hd ht (fun h => k1 ((i32_lt ha hb).mp h) p e s m args below meth c A H locs ls C P D S sz hl) (fun h => k2 (Int.not_lt.mp (fun q => h ((i32_lt ha hb).mpr q))) p e s m args below meth c A H locs ls C P D S sz hl)
theorem j_icmp_ge {a b off : Int} (hd : JD M pc (.if_icmp .ge off) 3) (ht : (pc : Int) + off = (tgt : Int)) (hp : pc + 3 = pc') (ha : -2147483648 ≤ a ∧ a ≤ 2147483647) (hb : -2147483648 ≤ b ∧ b ≤ 2147483647) (k1 : b ≤ a → J l M ad G X al Z N cells slots tgt L st w) (k2 : a < b → J l M ad G X al Z N cells slots pc' L st w) : J l M ad G X al Z N cells slots pc L (aI b :: aI a :: st) w := by
  subst hp
  intro p e s m args below meth c A H locs ls C P D S sz hl
  exact lv_icmp_ge C.1.1 C.1.2.1 hd ht (fun h => k1 ((i32_le hb ha).mp h) p e s m args below meth c A H locs ls C P D S sz hl) (fun h => k2 (Int.not_le.mp (fun q => h ((i32_le hb ha).mpr q))) p e s m args below meth c A H locs ls C P D S sz hl)
theorem j_icmp_gt {a b off : Int} (hd : JD M pc (.if_icmp .gt off) 3) (ht : (pc : Int) + off = (tgt : Int)) (hp : pc + 3 = pc') (ha : -2147483648 ≤ a ∧ a ≤ 2147483647) (hb : -2147483648 ≤ b ∧ b ≤ 2147483647) (k1 : b < a → J l M ad G X al Z N cells slots tgt L st w) (k2 : a ≤ b → J l M ad G X al Z N cells slots pc' L st w) : J l M ad G X al Z N cells slots pc L (aI b :: aI a :: st) w := by
  subst hp
  intro p e s m args below meth c A H locs ls C P D S sz hl
  exact lv_icmp_gt C.1.1 C.1.2.1 hd ht (fun h => k1 ((i32_lt hb ha).mp h) p e s m args below meth c A H locs ls C P D S sz hl) (fun h => k2 (Int.not_lt.mp (fun q => h ((i32_lt hb ha).mpr q))) p e s m args below meth c A H locs ls C P D S sz hl)
theorem j_icmp_le {a b off : Int} (hd : JD M pc (.if_icmp .le off) 3) (ht : (pc : Int) + off = (tgt : Int)) (hp : pc + 3 = pc') (ha : -2147483648 ≤ a ∧ a ≤ 2147483647) (hb : -2147483648 ≤ b ∧ b ≤ 2147483647) (k1 : a ≤ b → J l M ad G X al Z N cells slots tgt L st w) (k2 : b < a → J l M ad G X al Z N cells slots pc' L st w) : J l M ad G X al Z N cells slots pc L (aI b :: aI a :: st) w := by
  subst hp
  intro p e s m args below meth c A H locs ls C P D S sz hl
  exact lv_icmp_le C.1.1 C.1.2.1 hd ht (fun h => k1 ((i32_le ha hb).mp h) p e s m args below meth c A H locs ls C P D S sz hl) (fun h => k2 (Int.not_le.mp (fun q => h ((i32_le ha hb).mpr q))) p e s m args below meth c A H locs ls C P D S sz hl)
theorem j_if_eq {a off : Int} (hd : JD M pc (.ifCond .eq off) 3) (ht : (pc : Int) + off = (tgt : Int)) (hp : pc + 3 = pc') (ha : -2147483648 ≤ a ∧ a ≤ 2147483647) (k1 : a = 0 → J l M ad G X al Z N cells slots tgt L st w) (k2 : ¬ a = 0 → J l M ad G X al Z N cells slots pc' L st w) : J l M ad G X al Z N cells slots pc L (aI a :: st) w := by
  subst hp
  intro p e s m args below meth c A H locs ls C P D S sz hl
  exact lv_if_eq C.1.1 C.1.2.1 hd ht (fun h => k1 ((i32_eq ha (by omega : (-2147483648 : Int) ≤ 0 ∧ (0 : Int) ≤ 2147483647)).mp h) p e s m args below meth c A H locs ls C P D S sz hl) (fun h => k2 (fun q => h ((i32_eq ha (by omega : (-2147483648 : Int) ≤ 0 ∧ (0 : Int) ≤ 2147483647)).mpr q)) p e s m args below meth c A H locs ls C P D S sz hl)
theorem j_if_ne {a off : Int} (hd : JD M pc (.ifCond .ne off) 3) (ht : (pc : Int) + off = (tgt : Int)) (hp : pc + 3 = pc') (ha : -2147483648 ≤ a ∧ a ≤ 2147483647) (k1 : ¬ a = 0 → J l M ad G X al Z N cells slots tgt L st w) (k2 : a = 0 → J l M ad G X al Z N cells slots pc' L st w) : J l M ad G X al Z N cells slots pc L (aI a :: st) w := by
  subst hp
  intro p e s m args below meth c A H locs ls C P D S sz hl
  exact lv_if_ne C.1.1 C.1.2.1 hd ht (fun h => k1 (fun q => h ((i32_eq ha (by omega : (-2147483648 : Int) ≤ 0 ∧ (0 : Int) ≤ 2147483647)).mpr q)) p e s m args below meth c A H locs ls C P D S sz hl) (fun h => k2 ((i32_eq ha (by omega : (-2147483648 : Int) ≤ 0 ∧ (0 : Int) ≤ 2147483647)).mp h) p e s m args below meth c A H locs ls C P D S sz hl)
theorem j_if_lt {a off : Int} (hd : JD M pc (.ifCond .lt off) 3) (ht : (pc : Int) + off = (tgt : Int)) (hp : pc + 3 = pc') (ha : -2147483648 ≤ a ∧ a ≤ 2147483647) (k1 : a < 0 → J l M ad G X al Z N cells slots tgt L st w) (k2 : 0 ≤ a → J l M ad G X al Z N cells slots pc' L st w) : J l M ad G X al Z N cells slots pc L (aI a :: st) w := by
  subst hp
  intro p e s m args below meth c A H locs ls C P D S sz hl
  exact lv_if_lt C.1.1 C.1.2.1 hd ht (fun h => k1 ((i32_lt ha (by omega : (-2147483648 : Int) ≤ 0 ∧ (0 : Int) ≤ 2147483647)).mp h) p e s m args below meth c A H locs ls C P D S sz hl) (fun h => k2 (Int.not_lt.mp (fun q => h ((i32_lt ha (by omega : (-2147483648 : Int) ≤ 0 ∧ (0 : Int) ≤ 2147483647)).mpr q))) p e s m args below meth c A H locs ls C P D S sz hl)
theorem j_if_ge {a off : Int} (hd : JD M pc (.ifCond .ge off) 3) (ht : (pc : Int) + off = (tgt : Int)) (hp : pc + 3 = pc') (ha : -2147483648 ≤ a ∧ a ≤ 2147483647) (k1 : 0 ≤ a → J l M ad G X al Z N cells slots tgt L st w) (k2 : a < 0 → J l M ad G X al Z N cells slots pc' L st w) : J l M ad G X al Z N cells slots pc L (aI a :: st) w := by
  subst hp
  intro p e s m args below meth c A H locs ls C P D S sz hl
  exact lv_if_ge C.1.1 C.1.2.1 hd ht (fun h => k1 ((i32_le (by omega : (-2147483648 : Int) ≤ 0 ∧ (0 : Int) ≤ 2147483647) ha).mp h) p e s m args below meth c A H locs ls C P D S sz hl) (fun h => k2 (Int.not_le.mp (fun q => h ((i32_le (by omega : (-2147483648 : Int) ≤ 0 ∧ (0 : Int) ≤ 2147483647) ha).mpr q))) p e s m args below meth c A H locs ls C P D S sz hl)
theorem j_if_gt {a off : Int} (hd : JD M pc (.ifCond .gt off) 3) (ht : (pc : Int) + off = (tgt : Int)) (hp : pc + 3 = pc') (ha : -2147483648 ≤ a ∧ a ≤ 2147483647) (k1 : 0 < a → J l M ad G X al Z N cells slots tgt L st w) (k2 : a ≤ 0 → J l M ad G X al Z N cells slots pc' L st w) : J l M ad G X al Z N cells slots pc L (aI a :: st) w := by
  subst hp
  intro p e s m args below meth c A H locs ls C P D S sz hl
  exact lv_if_gt C.1.1 C.1.2.1 hd ht (fun h => k1 ((i32_lt (by omega : (-2147483648 : Int) ≤ 0 ∧ (0 : Int) ≤ 2147483647) ha).mp h) p e s m args below meth c A H locs ls C P D S sz hl) (fun h => k2 (Int.not_lt.mp (fun q => h ((i32_lt (by omega : (-2147483648 : Int) ≤ 0 ∧ (0 : Int) ≤ 2147483647) ha).mpr q))) p e s m args below meth c A H locs ls C P D S sz hl)
theorem j_if_le {a off : Int} (hd : JD M pc (.ifCond .le off) 3) (ht : (pc : Int) + off = (tgt : Int)) (hp : pc + 3 = pc') (ha : -2147483648 ≤ a ∧ a ≤ 2147483647) (k1 : a ≤ 0 → J l M ad G X al Z N cells slots tgt L st w) (k2 : 0 < a → J l M ad G X al Z N cells slots pc' L st w) : J l M ad G X al Z N cells slots pc L (aI a :: st) w := by
  subst hp
  intro p e s m args below meth c A H locs ls C P D S sz hl
  exact lv_if_le C.1.1 C.1.2.1 hd ht (fun h => k1 ((i32_le ha (by omega : (-2147483648 : Int) ≤ 0 ∧ (0 : Int) ≤ 2147483647)).mp h) p e s m args below meth c A H locs ls C P D S sz hl) (fun h => k2 (Int.not_le.mp (fun q => h ((i32_le ha (by omega : (-2147483648 : Int) ≤ 0 ∧ (0 : Int) ≤ 2147483647)).mpr q))) p e s m args below meth c A H locs ls C P D S sz hl)
abbrev aB (b : Prop) [Decidable b] : AV := aI (if b then 1 else 0)
theorem j_ifb_eq {b : Prop} [Decidable b] {off : Int} (hd : JD M pc (.ifCond .eq off) 3) (ht : (pc : Int) + off = (tgt : Int)) (hp : pc + 3 = pc') (k1 : ¬ b → J l M ad G X al Z N cells slots tgt L st w) (k2 : b → J l M ad G X al Z N cells slots pc' L st w) : J l M ad G X al Z N cells slots pc L (aB b :: st) w := by
  refine j_if_eq hd ht hp (by split <;> omega) (fun h => k1 (fun q => ?_)) (fun h => k2 (Decidable.byContradiction fun q => ?_))
  · rw [if_pos q] at h; omega
  · rw [if_neg q] at h; omega
theorem j_ifb_ne {b : Prop} [Decidable b] {off : Int} (hd : JD M pc (.ifCond .ne off) 3) (ht : (pc : Int) + off = (tgt : Int)) (hp : pc + 3 = pc') (k1 : b → J l M ad G X al Z N cells slots tgt L st w) (k2 : ¬ b → J l M ad G X al Z N cells slots pc' L st w) : J l M ad G X al Z N cells slots pc L (aB b :: st) w := by
  refine j_if_ne hd ht hp (by split <;> omega) (fun h => k1 (Decidable.byContradiction fun q => ?_)) (fun h => k2 (fun q => ?_))
  · rw [if_neg q] at h; omega
  · rw [if_pos q] at h; omega
theorem j_tsw {x dflt lo hi off : Int} {offs : Array Int} {len : Nat} (hd : JD M pc (.tableswitch dflt lo hi offs) len) (hx : -2147483648 ≤ x ∧ x ≤ 2147483647) (h1 : lo ≤ x ∧ x ≤ hi) (ho : offs[(x - lo).toNat]? = some off) (ht : (pc : Int) + off = (tgt : Int)) (k : J l M ad G X al Z N cells slots tgt L st w) : J l M ad G X al Z N cells slots pc L (aI x :: st) w := by
  intro p e s m args below meth c A H locs ls C P D S sz hl
  have ex : (Int32.ofInt x).toInt = x := Int32.toInt_ofInt_of_le (by omega) (by omega)
  exact lv_tableIn C.1.1 C.1.2.1 hd (by rw [ex]; omega) (by rw [ex]; omega) (by rw [ex]; exact ho) ht (k p e s m args below meth c A H locs ls C P D S sz hl)
theorem j_tswd {x dflt lo hi : Int} {offs : Array Int} {len : Nat} (hd : JD M pc (.tableswitch dflt lo hi offs) len) (hx : -2147483648 ≤ x ∧ x ≤ 2147483647) (h1 : x < lo ∨ hi < x) (ht : (pc : Int) + dflt = (tgt : Int)) (k : J l M ad G X al Z N cells slots tgt L st w) : J l M ad G X al Z N cells slots pc L (aI x :: st) w := by
  intro p e s m args below meth c A H locs ls C P D S sz hl
  have ex : (Int32.ofInt x).toInt = x := Int32.toInt_ofInt_of_le (by omega) (by omega)
  exact lv_tableOut C.1.1 C.1.2.1 hd (by rw [ex]; exact h1) ht (k p e s m args below meth c A H locs ls C P D S sz hl)
theorem j_lsw {x dflt off : Int} {ps : Array (Int × Int)} {len : Nat} (hd : JD M pc (.lookupswitch dflt ps) len) (hs : (ps.toList.zip (ps.toList.drop 1)).all (fun (a, next) => a.1 < next.1) = true) (hx : -2147483648 ≤ x ∧ x ≤ 2147483647) (ho : Op.lookupswitch.offset ps.toList dflt x = off) (ht : (pc : Int) + off = (tgt : Int)) (k : J l M ad G X al Z N cells slots tgt L st w) : J l M ad G X al Z N cells slots pc L (aI x :: st) w := by
  intro p e s m args below meth c A H locs ls C P D S sz hl
  have ex : (Int32.ofInt x).toInt = x := Int32.toInt_ofInt_of_le (by omega) (by omega)
  exact lv_lookup C.1.1 C.1.2.1 hd hs (by rw [ex]; exact ho) ht (k p e s m args below meth c A H locs ls C P D S sz hl)
theorem j_end {mc ms : Nat} {Φ : Option AV → AW → Prop} {r : Option AV} {s : State} {A : Nat → Prop} {H : Heap} {locs : List Loc} {a : Array Value} (hΦ : Φ r w) (P : jP G ad w N H) (D : jD G ad w N A) (S : va_S A s.heap H locs) (sz : al = true → H.size = ad N) (t : State) (ht : t.heap = H) : jQ ad G al N A Φ a s (.returned (r.map (jv ad))) t := by
  subst ht
  exact ⟨⟨r, w, rfl, hΦ, P, D, sz⟩, S.F rfl⟩
theorem j_iret {Φ : Option AV → AW → Prop} {z : Int} (hd : JD M pc .ireturn 1) (hr : M.2.2.2.1 = some .int) (hΦ : Φ (some (aI z)) w) : J l M ad G X al (jZ ad G al N cells slots Φ) N cells slots pc L [aI z] w := by
  intro p e s m args below meth c A H locs ls C P D S sz hl
  have hlk := C.2.2.1
  exact W.iret (v := Int32.ofInt z) C.1.1 C.1.2.1 (C.2.1.trans hr) (fun t ht _ => j_end (mc := 0) (ms := 0) hΦ P D S sz t ht) S.2.2 hd hlk
theorem j_zret {Φ : Option AV → AW → Prop} {b : Prop} [Decidable b] (hd : JD M pc .ireturn 1) (hr : M.2.2.2.1 = some .boolean) (hΦ : Φ (some (aB b)) w) : J l M ad G X al (jZ ad G al N cells slots Φ) N cells slots pc L [aB b] w := by
  intro p e s m args below meth c A H locs ls C P D S sz hl
  have hlk := C.2.2.1
  exact W.zret (v := Int32.ofInt (if b then 1 else 0)) (ty := .boolean) C.1.1 C.1.2.1 (C.2.1.trans hr) (by split <;> rfl) (fun t ht _ => j_end (mc := 0) (ms := 0) hΦ P D S sz t ht) S.2.2 hd hlk
theorem j_zret1 {Φ : Option AV → AW → Prop} (hd : JD M pc .ireturn 1) (hr : M.2.2.2.1 = some .boolean) (hΦ : Φ (some (aI 1)) w) : J l M ad G X al (jZ ad G al N cells slots Φ) N cells slots pc L [aI 1] w := by
  intro p e s m args below meth c A H locs ls C P D S sz hl
  have hlk := C.2.2.1
  exact W.zret (v := Int32.ofInt 1) (ty := .boolean) C.1.1 C.1.2.1 (C.2.1.trans hr) rfl (fun t ht _ => j_end (mc := 0) (ms := 0) hΦ P D S sz t ht) S.2.2 hd hlk
theorem j_zret0 {Φ : Option AV → AW → Prop} (hd : JD M pc .ireturn 1) (hr : M.2.2.2.1 = some .boolean) (hΦ : Φ (some (aI 0)) w) : J l M ad G X al (jZ ad G al N cells slots Φ) N cells slots pc L [aI 0] w := by
  intro p e s m args below meth c A H locs ls C P D S sz hl
  have hlk := C.2.2.1
  exact W.zret (v := Int32.ofInt 0) (ty := .boolean) C.1.1 C.1.2.1 (C.2.1.trans hr) rfl (fun t ht _ => j_end (mc := 0) (ms := 0) hΦ P D S sz t ht) S.2.2 hd hlk
theorem j_vret {Φ : Option AV → AW → Prop} (hd : JD M pc .return_ 1) (hr : M.2.2.2.1 = none) (hΦ : Φ none w) : J l M ad G X al (jZ ad G al N cells slots Φ) N cells slots pc L [] w := by
  intro p e s m args below meth c A H locs ls C P D S sz hl
  have hlk := C.2.2.1
  exact W.vret C.1.1 C.1.2.1 (C.2.1.trans hr) (fun t ht _ => j_end (r := none) (mc := 0) (ms := 0) hΦ P D S sz t ht) S.2.2 hd hlk
theorem j_lret {Φ : Option AV → AW → Prop} {z : Int} (hd : JD M pc .lreturn 1) (hr : M.2.2.2.1 = some .long) (hΦ : Φ (some (aL z)) w) : J l M ad G X al (jZ ad G al N cells slots Φ) N cells slots pc L [aL z] w := by
  intro p e s m args below meth c A H locs ls C P D S sz hl
  have hlk := C.2.2.1
  exact W.lret (v := Int64.ofInt z) C.1.1 C.1.2.1 (C.2.1.trans hr) (fun t ht _ => j_end (mc := 0) (ms := 0) hΦ P D S sz t ht) S.2.2 hd hlk
theorem cls_of {ci : Nat} {q : vw_C} (h : classes[ci]? = some q) : (∀ w ∈ u_ws q.1 q.2.1 q.2.2, w ∈ gT) ∧ (∃ ty : Nat → FieldType, ∀ k, k < q.2.2 → parseFieldDescriptor (q.2.1 k).2.2.1 = some (ty k)) ∧ (∀ a, a < q.2.2 → ∀ b, b < q.2.2 → a ≠ b → (q.2.1 a).2.1 ≠ (q.2.1 b).2.1) := by
  match ci, h with
  | 0, h => cases h; exact ⟨cin_0, ⟨_, tyX0_ok⟩, nmX0⟩
  | 1, h => cases h; exact ⟨cin_1, ⟨_, tyX1_ok⟩, nmX1⟩
  | 2, h => cases h; exact ⟨cin_2, ⟨_, tyX2_ok⟩, nmX2⟩
  | 3, h => cases h; exact ⟨cin_3, ⟨_, tyX3_ok⟩, nmX3⟩
  | 4, h => cases h; exact ⟨cin_4, ⟨_, tyX4_ok⟩, nmX4⟩
  | 5, h => cases h; exact ⟨cin_5, ⟨_, tyX5_ok⟩, nmX5⟩
  | 6, h => cases h; exact ⟨cin_6, ⟨_, tyX6_ok⟩, nmX6⟩
  | 7, h => cases h; exact ⟨cin_7, ⟨_, tyX7_ok⟩, nmX7⟩
  | 8, h => cases h; exact ⟨cin_8, ⟨_, tyX9_ok⟩, nmX9⟩
  | 9, h => cases h; exact ⟨cin_9, ⟨_, tyX10_ok⟩, nmX10⟩
  | 10, h => cases h; exact ⟨cin_10, ⟨_, tyX11_ok⟩, nmX11⟩
  | 11, h => cases h; exact ⟨cin_11, ⟨_, tyX12_ok⟩, nmX12⟩
  | n + 12, h => simp [classes] at h
theorem jv_get {fs : List AV} {k : Nat} {v : AV} (h : fs[k]? = some v) : (fs.map (jv ad))[k]? = some (jv ad v) := by rw [List.getElem?_map, h]; rfl
theorem j_get {idx ci k q : Nat} {fs : List AV} {v : AV} (hd : JD M pc (.getfield idx) 3) (hp : pc + 3 = pc') (hF : FS M.1.cls idx ci k) (hq : q < N) (hw : w q = eO ci fs) (hv : fs[k]? = some v) (kk : J l M ad G X al Z N cells slots pc' L (v :: st) w) : J l M ad G X al Z N cells slots pc L (aR q :: st) w := by
  subst hp
  intro p e s m args below meth c A H locs ls C P D S sz hl
  obtain ⟨⟨Cn, T, NN⟩, h1, h2, h3⟩ := hF
  obtain ⟨c1, -, -⟩ := cls_of h1
  rcases h3 with h3 | ⟨host, h3⟩
  · exact va_get (D := (G.1, G.2.1)) (ci := ci) (v := jv ad v) C.1.1 C.1.2.1 C.1.2.2.2.2 c1 C.1.2.2.2.1 C.2.2.2.2.1.1 P q (jw_get' hq hw) h1 k h2 (C.1.2.2.2.2 _ h3) (fun _ h => h) (jv_get hv) hd (kk p e s m args below meth c A H locs ls C P D S sz hl)
  · exact va_getN (D := (G.1, G.2.1)) (ci := ci) (v := jv ad v) C.1.1 C.1.2.1 C.1.2.2.2.2 c1 C.1.2.2.2.1 C.2.2.2.2.1.1 P q (jw_get' hq hw) h1 k h2 (va_Nw.use rfl (C.2.2.2.2.1.2.1 _ h3)) (fun _ h => h) (jv_get hv) hd (kk p e s m args below meth c A H locs ls C P D S sz hl)
theorem je_set {ci q k : Nat} {fs : List AV} {v : AV} {ca : Nat → ClassId} : (jw ca ad w N).set q (ad q, .inr (ci, (fs.map (jv ad)).set k (jv ad v))) = jw ca ad (up w q (eO ci (fs.set k v))) N := by
  rw [← List.map_set]
  exact jw_set (e := eO ci (fs.set k v))
end JR2
