def SiteM (own : String) (idx : Nat) (y : MethodName) (code : ByteArray) (nL : Nat) : Prop := ∀ w ∈ ([.methodLink own idx y, .static y, .initialized "java/lang/Math", .code y code nL (some .int)] : List Cond), w ∈ gT
def SiteA (own : String) (idx : Nat) : Prop := ∀ w ∈ ([.methodLink own idx arraycopyName, .native arraycopyName, .static arraycopyName, .initialized "java/lang/System"] : List Cond), w ∈ gT
def SiteOI (own : String) (idx : Nat) : Prop := ∀ w ∈ ([.methodLink own idx objectInit, .instanceMethod objectInit, .code objectInit ⟨#[0xb1]⟩ 1 none] : List Cond), w ∈ gT
theorem s_Top_1 : SiteOI "RattleAtFifty" 1 := gt_ps [68, 69, 70] (by decide +kernel) (by decide +kernel)
theorem g_Top_189 : Cond.fieldLink "RattleAtFifty" 189 "RattleAtFifty" "MOST_OF_SETTING" "[I" ∈ gT := gt_ps (ws := [.fieldLink "RattleAtFifty" 189 "RattleAtFifty" "MOST_OF_SETTING" "[I"]) [547] (by decide +kernel) (by decide +kernel) _ List.mem_cons_self
theorem s_Top_216 : SiteM "RattleAtFifty" 216 Lib.Math.min.name Lib.Math.min.code 2 := gt_ps [592, 368, 55, 369] (by decide +kernel) (by decide +kernel)
theorem k_Top_284 : Cond.constantLong "RattleAtFifty" 284 (10) ∈ gT := gt_ps (ws := [.constantLong "RattleAtFifty" 284 (10)]) [686] (by decide +kernel) (by decide +kernel) _ List.mem_cons_self
theorem k_Top_305 : Cond.constant "RattleAtFifty" 305 (1103515245) ∈ gT := gt_ps (ws := [.constant "RattleAtFifty" 305 (1103515245)]) [725] (by decide +kernel) (by decide +kernel) _ List.mem_cons_self
theorem k_Top_306 : Cond.constant "RattleAtFifty" 306 (2147483647) ∈ gT := gt_ps (ws := [.constant "RattleAtFifty" 306 (2147483647)]) [729] (by decide +kernel) (by decide +kernel) _ List.mem_cons_self
theorem s_Top_351 : SiteA "RattleAtFifty" 351 := gt_ps [784, 273, 272, 54] (by decide +kernel) (by decide +kernel)
theorem k_Top_368 : Cond.constantLong "RattleAtFifty" 368 (-1000000000) ∈ gT := gt_ps (ws := [.constantLong "RattleAtFifty" 368 (-1000000000)]) [604] (by decide +kernel) (by decide +kernel) _ List.mem_cons_self
theorem s_Mod_1 : SiteOI "RattleAtFiftyModel" 1 := gt_ps [978, 69, 70] (by decide +kernel) (by decide +kernel)
theorem k_Mod_165 : Cond.constant "RattleAtFiftyModel" 165 (1000000000) ∈ gT := gt_ps (ws := [.constant "RattleAtFiftyModel" 165 (1000000000)]) [1237] (by decide +kernel) (by decide +kernel) _ List.mem_cons_self
theorem k_Mod_183 : Cond.constantLong "RattleAtFiftyModel" 183 (-1000000001) ∈ gT := gt_ps (ws := [.constantLong "RattleAtFiftyModel" 183 (-1000000001)]) [1248] (by decide +kernel) (by decide +kernel) _ List.mem_cons_self
theorem k_Mod_201 : Cond.constant "RattleAtFiftyModel" 201 (-1000000000) ∈ gT := gt_ps (ws := [.constant "RattleAtFiftyModel" 201 (-1000000000)]) [1281] (by decide +kernel) (by decide +kernel) _ List.mem_cons_self
theorem k_Mod_209 : Cond.constantLong "RattleAtFiftyModel" 209 (10) ∈ gT := gt_ps (ws := [.constantLong "RattleAtFiftyModel" 209 (10)]) [1301] (by decide +kernel) (by decide +kernel) _ List.mem_cons_self
theorem k_Mod_211 : Cond.constant "RattleAtFiftyModel" 211 (-2147483648) ∈ gT := gt_ps (ws := [.constant "RattleAtFiftyModel" 211 (-2147483648)]) [1313] (by decide +kernel) (by decide +kernel) _ List.mem_cons_self
theorem k_Mod_221 : Cond.constant "RattleAtFiftyModel" 221 (1103515245) ∈ gT := gt_ps (ws := [.constant "RattleAtFiftyModel" 221 (1103515245)]) [1334] (by decide +kernel) (by decide +kernel) _ List.mem_cons_self
theorem k_Mod_222 : Cond.constant "RattleAtFiftyModel" 222 (2147483647) ∈ gT := gt_ps (ws := [.constant "RattleAtFiftyModel" 222 (2147483647)]) [1335] (by decide +kernel) (by decide +kernel) _ List.mem_cons_self
theorem k_Mod_223 : Cond.constant "RattleAtFiftyModel" 223 (65536) ∈ gT := gt_ps (ws := [.constant "RattleAtFiftyModel" 223 (65536)]) [1336] (by decide +kernel) (by decide +kernel) _ List.mem_cons_self
theorem s_Car_3 : SiteOI "RattleAtFifty$Car" 3 := gt_ps [133, 69, 70] (by decide +kernel) (by decide +kernel)
theorem s_Car_44 : SiteA "RattleAtFifty$Car" 44 := gt_ps [271, 273, 272, 54] (by decide +kernel) (by decide +kernel)
theorem s_Car_75 : SiteM "RattleAtFifty$Car" 75 Lib.Math.min.name Lib.Math.min.code 2 := gt_ps [367, 368, 55, 369] (by decide +kernel) (by decide +kernel)
theorem g_Car_81 : Cond.fieldLinkNest "RattleAtFifty$Car" 81 "RattleAtFifty" "MOST_OF_SETTING" "[I" "RattleAtFifty" ∈ nT := nt_at 257 (by decide +kernel) (by decide +kernel)
theorem s_Car_102 : SiteM "RattleAtFifty$Car" 102 Lib.Math.abs.name Lib.Math.abs.code 1 := gt_ps [480, 481, 55, 482] (by decide +kernel) (by decide +kernel)
theorem s_Car_105 : SiteM "RattleAtFifty$Car" 105 Lib.Math.max.name Lib.Math.max.code 2 := gt_ps [483, 402, 55, 403] (by decide +kernel) (by decide +kernel)
theorem s_Heavy_11 : SiteM "RattleAtFifty$Heavy" 11 Lib.Math.max.name Lib.Math.max.code 2 := gt_ps [401, 402, 55, 403] (by decide +kernel) (by decide +kernel)
theorem s_Part_1 : SiteOI "RattleAtFifty$Part" 1 := gt_ps [77, 69, 70] (by decide +kernel) (by decide +kernel)
theorem s_Shelf_3 : SiteOI "RattleAtFifty$Shelf" 3 := gt_ps [180, 69, 70] (by decide +kernel) (by decide +kernel)
theorem k_Shelf_35 : Cond.constant "RattleAtFifty$Shelf" 35 (-2147483648) ∈ gT := gt_ps (ws := [.constant "RattleAtFifty$Shelf" 35 (-2147483648)]) [703] (by decide +kernel) (by decide +kernel) _ List.mem_cons_self
section JB
theorem nI_of_int {a : Int} (h : 0 ≤ a) : Int32.ofInt a = nI a.toNat := by
  unfold nI
  rw [← Int32.ofInt_eq_ofNat, Int.toNat_of_nonneg h]
theorem lN_of_int {a : Int} (h : 0 ≤ a) : Int64.ofInt a = lN a.toNat := by
  unfold lN
  rw [← Int64.ofInt_eq_ofNat, Int.toNat_of_nonneg h]
theorem i32_div {a b : Int} (ha : 0 ≤ a ∧ a ≤ 2147483647) (hb : 0 < b ∧ b ≤ 2147483647) : Int32.ofInt a / Int32.ofInt b = Int32.ofInt (a / b) := by
  rw [nI_of_int ha.1, nI_of_int (by omega : 0 ≤ b), nI_of_int (Int.ediv_nonneg ha.1 (by omega)), pk_div (by omega) (by omega) (by omega)]
  congr 1
  obtain ⟨a, rfl⟩ := Int.eq_ofNat_of_zero_le ha.1
  obtain ⟨b, rfl⟩ := Int.eq_ofNat_of_zero_le (by omega : 0 ≤ b)
  simp
  rw [← Int.natCast_ediv, Int.toNat_natCast]
theorem i32_rem {a b : Int} (ha : 0 ≤ a ∧ a ≤ 2147483647) (hb : 0 < b ∧ b ≤ 2147483647) : Int32.ofInt a - Int32.ofInt a / Int32.ofInt b * Int32.ofInt b = Int32.ofInt (a % b) := by
  rw [i32_div ha hb, ← Int32.ofInt_mul, ← Int32.ofInt_sub]
  congr 1
  have := Int.mul_ediv_add_emod a b
  rw [Int.mul_comm] at this
  omega
theorem i64_div {a b : Int} (ha : 0 ≤ a ∧ a ≤ 9223372036854775807) (hb : 0 < b ∧ b ≤ 9223372036854775807) : Int64.ofInt a / Int64.ofInt b = Int64.ofInt (a / b) := by
  rw [lN_of_int ha.1, lN_of_int (by omega : 0 ≤ b), lN_of_int (Int.ediv_nonneg ha.1 (by omega)), pk_lDiv (by omega) (by omega) (by omega)]
  congr 1
  obtain ⟨a, rfl⟩ := Int.eq_ofNat_of_zero_le ha.1
  obtain ⟨b, rfl⟩ := Int.eq_ofNat_of_zero_le (by omega : 0 ≤ b)
  simp
  rw [← Int.natCast_ediv, Int.toNat_natCast]
theorem i64_rem {a b : Int} (ha : 0 ≤ a ∧ a ≤ 9223372036854775807) (hb : 0 < b ∧ b ≤ 9223372036854775807) : Int64.ofInt a - Int64.ofInt a / Int64.ofInt b * Int64.ofInt b = Int64.ofInt (a % b) := by
  rw [i64_div ha hb, ← Int64.ofInt_mul, ← Int64.ofInt_sub]
  congr 1
  have := Int.mul_ediv_add_emod a b
  rw [Int.mul_comm] at this
  omega
theorem i32_mask (a : Int) {m : Int} (k : Nat) (hk : k ≤ 31) (hm : m = 2 ^ k - 1) : Int32.ofInt a &&& Int32.ofInt m = Int32.ofInt (a % 2 ^ k) := by
  subst hm
  have h2 : (2 : Int) ^ k = ((2 ^ k : Nat) : Int) := by simp
  have hpos : 0 < 2 ^ k := Nat.two_pow_pos k
  have hlt : 2 ^ k ≤ 2 ^ 31 := Nat.pow_le_pow_right (by omega) hk
  have e : (Int32.ofInt (2 ^ k - 1 : Int)).toBitVec.toNat = 2 ^ k - 1 := by
    rw [h2, show ((2 ^ k : Nat) : Int) - 1 = ((2 ^ k - 1 : Nat) : Int) by omega]
    show (BitVec.ofInt 32 ((2 ^ k - 1 : Nat) : Int)).toNat = _
    rw [BitVec.toNat_ofInt]
    omega
  rw [pk_and _ k e, nI_of_int (a := a % 2 ^ k) (by rw [h2]; omega)]
  congr 1
  show (BitVec.ofInt 32 a).toNat % 2 ^ k = _
  rw [BitVec.toNat_ofInt, h2]
  have hd : (2 ^ k) ∣ (2 ^ 32 : Nat) := Nat.pow_dvd_pow 2 (by omega)
  have hdi : ((2 ^ k : Nat) : Int) ∣ ((2 ^ 32 : Nat) : Int) := Int.natCast_dvd_natCast.mpr hd
  have e1 : a % ((2 ^ 32 : Nat) : Int) % ((2 ^ k : Nat) : Int) = a % ((2 ^ k : Nat) : Int) := Int.emod_emod_of_dvd a hdi
  rw [← e1]
  have h0 : 0 ≤ a % ((2 ^ 32 : Nat) : Int) := by omega
  generalize a % ((2 ^ 32 : Nat) : Int) = b at h0
  obtain ⟨b, rfl⟩ := Int.eq_ofNat_of_zero_le h0
  rw [Int.toNat_natCast, ← Int.natCast_emod, Int.toNat_natCast]
theorem nI_and {a b : Nat} (ha : a < 2 ^ 32) (hb : b < 2 ^ 32) : nI a &&& nI b = nI (a &&& b) := by
  unfold nI
  apply Int32.toBitVec_inj.mp
  rw [Int32.toBitVec_and]
  apply BitVec.eq_of_toNat_eq
  show ((BitVec.ofNat 32 a) &&& (BitVec.ofNat 32 b)).toNat = (BitVec.ofNat 32 (a &&& b)).toNat
  rw [BitVec.toNat_and, BitVec.toNat_ofNat, BitVec.toNat_ofNat, BitVec.toNat_ofNat, Nat.mod_eq_of_lt ha, Nat.mod_eq_of_lt hb, Nat.mod_eq_of_lt (Nat.and_lt_two_pow a hb)]
theorem nI_or {a b : Nat} (ha : a < 2 ^ 32) (hb : b < 2 ^ 32) : nI a ||| nI b = nI (a ||| b) := by
  unfold nI
  apply Int32.toBitVec_inj.mp
  rw [Int32.toBitVec_or]
  apply BitVec.eq_of_toNat_eq
  show ((BitVec.ofNat 32 a) ||| (BitVec.ofNat 32 b)).toNat = (BitVec.ofNat 32 (a ||| b)).toNat
  rw [BitVec.toNat_or, BitVec.toNat_ofNat, BitVec.toNat_ofNat, BitVec.toNat_ofNat, Nat.mod_eq_of_lt ha, Nat.mod_eq_of_lt hb, Nat.mod_eq_of_lt (Nat.or_lt_two_pow ha hb)]
theorem nI_xor {a b : Nat} (ha : a < 2 ^ 32) (hb : b < 2 ^ 32) : nI a ^^^ nI b = nI (a ^^^ b) := by
  unfold nI
  apply Int32.toBitVec_inj.mp
  rw [Int32.toBitVec_xor]
  apply BitVec.eq_of_toNat_eq
  show ((BitVec.ofNat 32 a) ^^^ (BitVec.ofNat 32 b)).toNat = (BitVec.ofNat 32 (a ^^^ b)).toNat
  rw [BitVec.toNat_xor, BitVec.toNat_ofNat, BitVec.toNat_ofNat, BitVec.toNat_ofNat, Nat.mod_eq_of_lt ha, Nat.mod_eq_of_lt hb, Nat.mod_eq_of_lt (Nat.xor_lt_two_pow ha hb)]
def andI (a b : Int) : Int := ((a.toNat &&& b.toNat : Nat) : Int)
def orI (a b : Int) : Int := ((a.toNat ||| b.toNat : Nat) : Int)
def andn (a b : Int) : Int := ((a.toNat ^^^ (a.toNat &&& b.toNat) : Nat) : Int)
theorem i32_and {a b : Int} (ha : 0 ≤ a ∧ a ≤ 2147483647) (hb : 0 ≤ b ∧ b ≤ 2147483647) : Int32.ofInt a &&& Int32.ofInt b = Int32.ofInt (andI a b) := by
  rw [nI_of_int ha.1, nI_of_int hb.1, nI_and (by omega) (by omega), nI_of_int (by unfold andI; omega)]
  simp [andI]
theorem i32_or {a b : Int} (ha : 0 ≤ a ∧ a ≤ 2147483647) (hb : 0 ≤ b ∧ b ≤ 2147483647) : Int32.ofInt a ||| Int32.ofInt b = Int32.ofInt (orI a b) := by
  rw [nI_of_int ha.1, nI_of_int hb.1, nI_or (by omega) (by omega), nI_of_int (by unfold orI; omega)]
  simp [orI]
theorem i32_not (a : Int) : Int32.ofInt a ^^^ Int32.ofInt (-1) = Int32.ofInt (-1 - a) := by
  have e : Int32.ofInt (-1) = -1 := rfl
  rw [e, Int32.ofInt_sub, e]
  apply Int32.toBitVec_inj.mp
  rw [Int32.toBitVec_xor, Int32.toBitVec_sub]
  generalize (Int32.ofInt a).toBitVec = x
  rw [show (-1 : Int32).toBitVec = BitVec.allOnes 32 by decide, BitVec.xor_allOnes]
  apply BitVec.eq_of_toNat_eq
  rw [BitVec.toNat_not, BitVec.toNat_sub, BitVec.toNat_allOnes]
  omega
theorem i32_andn {a b : Int} (ha : 0 ≤ a ∧ a ≤ 2147483647) (hb : 0 ≤ b ∧ b ≤ 2147483647) : Int32.ofInt a &&& Int32.ofInt (-1 - b) = Int32.ofInt (andn a b) := by
  rw [← i32_not b, nI_of_int ha.1, nI_of_int hb.1, nI_of_int (by unfold andn; omega : 0 ≤ andn a b)]
  have e : (andn a b).toNat = a.toNat ^^^ (a.toNat &&& b.toNat) := by simp [andn]
  rw [e]
  rw [← nI_xor (by omega) (Nat.and_lt_two_pow _ (by omega)), ← nI_and (by omega) (by omega)]
  apply Int32.toBitVec_inj.mp
  simp only [Int32.toBitVec_and, Int32.toBitVec_xor]
  rw [show (Int32.ofInt (-1)).toBitVec = BitVec.allOnes 32 by decide, BitVec.xor_allOnes]
  generalize (nI a.toNat).toBitVec = x
  generalize (nI b.toNat).toBitVec = y
  ext i hi
  simp
  cases x[i] <;> cases y[i] <;> rfl
theorem i32_shl1 : ∀ p : Nat, p < 31 → Int32.ofInt 1 <<< (Int32.ofInt (p : Int) &&& 31) = Int32.ofInt (2 ^ p) := by decide +kernel
theorem i32_sh : ∀ p : Nat, p < 32 → ((Int32.ofInt (p : Int) &&& 31).toBitVec.smod 32).toNat = p := by decide +kernel
theorem i32_shr {a q : Int} (ha : 0 ≤ a ∧ a ≤ 2147483647) (hq : 0 ≤ q ∧ q ≤ 31) : Int32.ofInt a >>> (Int32.ofInt q &&& 31) = Int32.ofInt (a / 2 ^ q.toNat) := by
  obtain ⟨q, rfl⟩ := Int.eq_ofNat_of_zero_le hq.1
  have h2 : (2 : Int) ^ q = ((2 ^ q : Nat) : Int) := by simp
  rw [Int.toNat_natCast, h2, nI_of_int ha.1, pk_shrN (by omega) _ q (i32_sh q (by omega)), nI_of_int (Int.ediv_nonneg ha.1 (Int.natCast_nonneg _))]
  congr 1
  obtain ⟨a, rfl⟩ := Int.eq_ofNat_of_zero_le ha.1
  rw [← Int.natCast_ediv, Int.toNat_natCast, Int.toNat_natCast]
theorem i32_ush : ∀ p : Nat, p < 32 → (((Int32.ofInt (p : Int)).toUInt32 &&& Int32.toUInt32 31).toBitVec % 32).toNat = p := by decide +kernel
theorem i32_ushr {a : Int} {q : Nat} (ha : 0 ≤ a ∧ a ≤ 2147483647) (hq : q < 32) : ((Int32.ofInt a).toUInt32 >>> ((Int32.ofInt (q : Int)).toUInt32 &&& Int32.toUInt32 31)).toInt32 = Int32.ofInt (a / 2 ^ q) := by
  have h2 : (2 : Int) ^ q = ((2 ^ q : Nat) : Int) := by simp
  rw [h2, nI_of_int ha.1, pk_ushrN (by omega) _ q (i32_ush q hq), nI_of_int (Int.ediv_nonneg ha.1 (Int.natCast_nonneg _))]
  congr 1
  obtain ⟨a, rfl⟩ := Int.eq_ofNat_of_zero_le ha.1
  rw [← Int.natCast_ediv, Int.toNat_natCast, Int.toNat_natCast]
theorem i32_b (z : Int) : (Int32.ofInt z).toInt8.toInt32 = Int32.ofInt (z.bmod 256) := by
  apply Int32.toInt_inj.mp
  rw [Int8.toInt_toInt32, Int32.toInt8_ofInt, Int8.toInt_ofInt]
  have h1 : -128 ≤ z.bmod 256 := Int.le_bmod (by omega)
  have h2 : z.bmod 256 < 128 := Int.bmod_lt (by omega)
  show z.bmod (2 ^ 8) = _
  rw [Int32.toInt_ofInt_of_le (by omega) (by omega)]
theorem i32_s (z : Int) : (Int32.ofInt z).toInt16.toInt32 = Int32.ofInt (z.bmod 65536) := by
  apply Int32.toInt_inj.mp
  rw [Int16.toInt_toInt32, Int32.toInt16_ofInt, Int16.toInt_ofInt]
  have h1 : -32768 ≤ z.bmod 65536 := Int.le_bmod (by omega)
  have h2 : z.bmod 65536 < 32768 := Int.bmod_lt (by omega)
  show z.bmod (2 ^ 16) = _
  rw [Int32.toInt_ofInt_of_le (by omega) (by omega)]
end JB
