theorem c_Part_init {l : Launch} {al : Bool} {N q : Nat} {w : AW} : Call l m_Part_init al N N [aR q] w (rt none w) := by
  refine Call.of (L := [some (aR q)]) rfl (Nat.le_of_ble_eq_true rfl) rfl (fun G ad => ?_)
  refine j_aload_n (pc' := 1) (z := q) dX7_init_0 rfl rfl ?_
  refine j_oinit (pc' := 4) dX7_init_1 rfl s_Part_1 rfl ?_
  exact j_vret dX7_init_4 rfl ⟨rfl, rfl⟩
theorem c_Loose_init {l : Launch} {al : Bool} {N q : Nat} {w : AW} : Call l m_Loose_init al N N [aR q] w (rt none w) := by
  refine Call.of (L := [some (aR q)]) rfl (Nat.le_of_ble_eq_true rfl) rfl (fun G ad => ?_)
  refine j_aload_n (pc' := 1) (z := q) dX6_init_0 rfl rfl ?_
  refine j_callIN (pc' := 4) (as := []) (rest := []) dX6_init_1 rfl s_Loose_1 c_Part_init rfl rfl rfl (jdet (st' := []) rfl ?_)
  exact j_vret dX6_init_4 rfl ⟨rfl, rfl⟩
theorem c_Tinny_init {l : Launch} {al : Bool} {N q : Nat} {w : AW} : Call l m_Tinny_init al N N [aR q] w (rt none w) := by
  refine Call.of (L := [some (aR q)]) rfl (Nat.le_of_ble_eq_true rfl) rfl (fun G ad => ?_)
  refine j_aload_n (pc' := 1) (z := q) dX10_init_0 rfl rfl ?_
  refine j_callIN (pc' := 4) (as := []) (rest := []) dX10_init_1 rfl s_Tinny_1 c_Part_init rfl rfl rfl (jdet (st' := []) rfl ?_)
  exact j_vret dX10_init_4 rfl ⟨rfl, rfl⟩
theorem c_Heavy_init {l : Launch} {al : Bool} {N q : Nat} {w : AW} : Call l m_Heavy_init al N N [aR q] w (rt none w) := by
  refine Call.of (L := [some (aR q)]) rfl (Nat.le_of_ble_eq_true rfl) rfl (fun G ad => ?_)
  refine j_aload_n (pc' := 1) (z := q) dX5_init_0 rfl rfl ?_
  refine j_callIN (pc' := 4) (as := []) (rest := []) dX5_init_1 rfl s_Heavy_1 c_Part_init rfl rfl rfl (jdet (st' := []) rfl ?_)
  exact j_vret dX5_init_4 rfl ⟨rfl, rfl⟩
theorem c_Dead_init {l : Launch} {al : Bool} {N q : Nat} {w : AW} : Call l m_Dead_init al N N [aR q] w (rt none w) := by
  refine Call.of (L := [some (aR q)]) rfl (Nat.le_of_ble_eq_true rfl) rfl (fun G ad => ?_)
  refine j_aload_n (pc' := 1) (z := q) dX1_init_0 rfl rfl ?_
  refine j_callIN (pc' := 4) (as := []) (rest := []) dX1_init_1 rfl s_Dead_1 c_Part_init rfl rfl rfl (jdet (st' := []) rfl ?_)
  exact j_vret dX1_init_4 rfl ⟨rfl, rfl⟩
theorem c_Frosty_init {l : Launch} {al : Bool} {N q : Nat} {w : AW} : Call l m_Frosty_init al N N [aR q] w (rt none w) := by
  refine Call.of (L := [some (aR q)]) rfl (Nat.le_of_ble_eq_true rfl) rfl (fun G ad => ?_)
  refine j_aload_n (pc' := 1) (z := q) dX4_init_0 rfl rfl ?_
  refine j_callIN (pc' := 4) (as := []) (rest := []) dX4_init_1 rfl s_Frosty_1 c_Loose_init rfl rfl rfl (jdet (st' := []) rfl ?_)
  exact j_vret dX4_init_4 rfl ⟨rfl, rfl⟩
theorem c_Doubled_init {l : Launch} {al : Bool} {N q : Nat} {w : AW} : Call l m_Doubled_init al N N [aR q] w (rt none w) := by
  refine Call.of (L := [some (aR q)]) rfl (Nat.le_of_ble_eq_true rfl) rfl (fun G ad => ?_)
  refine j_aload_n (pc' := 1) (z := q) dX3_init_0 rfl rfl ?_
  refine j_callIN (pc' := 4) (as := []) (rest := []) dX3_init_1 rfl s_Doubled_1 c_Tinny_init rfl rfl rfl (jdet (st' := []) rfl ?_)
  exact j_vret dX3_init_4 rfl ⟨rfl, rfl⟩
theorem c_Deep_init {l : Launch} {al : Bool} {N q : Nat} {w : AW} : Call l m_Deep_init al N N [aR q] w (rt none w) := by
  refine Call.of (L := [some (aR q)]) rfl (Nat.le_of_ble_eq_true rfl) rfl (fun G ad => ?_)
  refine j_aload_n (pc' := 1) (z := q) dX2_init_0 rfl rfl ?_
  refine j_callIN (pc' := 4) (as := []) (rest := []) dX2_init_1 rfl s_Deep_1 c_Heavy_init rfl rfl rfl (jdet (st' := []) rfl ?_)
  exact j_vret dX2_init_4 rfl ⟨rfl, rfl⟩
set_option maxRecDepth 100000 in
set_option maxHeartbeats 4000000 in
theorem c_Shelf_init {l : Launch} {q : Nat} {w : AW} (hq : q + 4 < 900) (hw : w q = eO 8 [aI 0, aI 0, aI 0, aI 0, aI 0, aN]) : Call l m_Shelf_init true (q + 1) (q + 2) [aR q] w (fun r w' => r = none ∧ ShelfAt w' q 0 0 0 0 0 (fun _ => 0) ∧ ∀ j, j < q → w' j = w j) := by
  refine Call.of (L := [some (aR q)]) rfl (Nat.le_of_ble_eq_true rfl) rfl (fun G ad => ?_)
  refine j_aload_n (pc' := 1) (z := q) dX9_init_0 rfl rfl ?_
  refine j_oinit (pc' := 4) dX9_init_1 rfl s_Shelf_3 rfl ?_
  refine j_aload_n (pc' := 5) (z := q) dX9_init_4 rfl rfl ?_
  refine j_iconst (pc' := 6) dX9_init_5 rfl ?_
  refine j_putI (pc' := 9) dX9_init_6 rfl p_Shelf_11 (by omega) hw (Nat.le_of_ble_eq_true rfl) (j_w (up_id hw) ?_)
  refine j_aload_n (pc' := 10) (z := q) dX9_init_9 rfl rfl ?_
  refine j_iconst (pc' := 11) dX9_init_10 rfl ?_
  refine j_putI (pc' := 14) dX9_init_11 rfl p_Shelf_15 (by omega) hw (Nat.le_of_ble_eq_true rfl) (j_w (up_id hw) ?_)
  refine j_aload_n (pc' := 15) (z := q) dX9_init_14 rfl rfl ?_
  refine j_iconst (pc' := 16) dX9_init_15 rfl ?_
  refine j_putI (pc' := 19) dX9_init_16 rfl p_Shelf_18 (by omega) hw (Nat.le_of_ble_eq_true rfl) (j_w (up_id hw) ?_)
  refine j_aload_n (pc' := 20) (z := q) dX9_init_19 rfl rfl ?_
  refine j_iconst (pc' := 21) dX9_init_20 rfl ?_
  refine j_putI (pc' := 24) dX9_init_21 rfl p_Shelf_21 (by omega) hw (Nat.le_of_ble_eq_true rfl) (j_w (up_id hw) ?_)
  refine j_aload_n (pc' := 25) (z := q) dX9_init_24 rfl rfl ?_
  refine j_iconst (pc' := 26) dX9_init_25 rfl ?_
  refine j_putI (pc' := 29) dX9_init_26 rfl p_Shelf_24 (by omega) hw (Nat.le_of_ble_eq_true rfl) (j_w (up_id hw) ?_)
  refine j_aload_n (pc' := 30) (z := q) dX9_init_29 rfl rfl ?_
  refine j_bipush (pc' := 32) (n := 100) dX9_init_30 rfl (by decide) ?_
  refine j_newaI (pc' := 34) 100 dX9_init_32 rfl (by omega) rfl (by omega) ⟨by decide, by decide⟩ ?_
  refine j_putF (pc' := 37) (v := aR (q + 1)) (fs := [aI 0, aI 0, aI 0, aI 0, aI 0, aN]) dX9_init_34 rfl p_Shelf_27 rfl (by omega) (by rw [up_n (by omega)]; exact hw) (Nat.le_of_ble_eq_true rfl) ⟨rfl, rfl⟩ ?_
  refine j_vret dX9_init_37 rfl ⟨rfl, ⟨up_s, by rw [up_n (by omega)]; exact up_s⟩, fun j hj => by rw [up_n (by omega), up_n (by omega)]⟩
def D0 : Int → Int → Int := fun k p => if k = 6 then (if p = 0 then 50 else if p = 1 then 5 else 0) else 0
set_option maxRecDepth 100000 in
set_option maxHeartbeats 4000000 in
theorem c_Car_init {l : Launch} {q : Nat} {w : AW} (hq1 : 1 < q) (hq : q + 9 < 900) (hw : w q = eO 0 [aN, aN, aN, aN, aN, aN, aN, aN, aI 0, aI 0]) : Call l m_Car_init true (q + 1) (q + 8) [aR q, aR 1] w (fun r w' => r = none ∧ CarAt w' q D0 0 0 ∧ ∀ j, j < q → w' j = w j) := by
  refine Call.of (L := [some (aR q), some (aR 1)]) rfl (Nat.le_of_ble_eq_true rfl) rfl (fun G ad => ?_)
  refine j_aload_n (pc' := 1) (z := q) dX0_init_0 rfl rfl ?_
  refine j_oinit (pc' := 4) dX0_init_1 rfl s_Car_3 rfl ?_
  refine j_aload_n (pc' := 5) (z := q) dX0_init_4 rfl rfl ?_
  refine j_aload_n (pc' := 6) (z := 1) dX0_init_5 rfl rfl ?_
  refine j_putF (pc' := 9) (v := aR 1) (fs := [aN, aN, aN, aN, aN, aN, aN, aN, aI 0, aI 0]) dX0_init_6 rfl p_Car_9 rfl (by omega) hw (Nat.le_of_ble_eq_true rfl) ⟨rfl, rfl⟩ ?_
  refine j_aload_n (pc' := 10) (z := q) dX0_init_9 rfl rfl ?_
  refine j_bipush (pc' := 12) (n := 7) dX0_init_10 rfl (by decide) ?_
  refine j_newaI (pc' := 14) 7 dX0_init_12 rfl (by omega) rfl (by omega) ⟨by decide, by decide⟩ ?_
  refine j_putF (pc' := 17) (v := aR (q + 1)) (fs := [aR 1, aN, aN, aN, aN, aN, aN, aN, aI 0, aI 0]) dX0_init_14 rfl p_Car_15 rfl (by omega) (by rw [up_n (by omega)]; exact up_s) (Nat.le_of_ble_eq_true rfl) ⟨rfl, rfl⟩ ?_
  refine j_aload_n (pc' := 18) (z := q) dX0_init_17 rfl rfl ?_
  refine j_bipush (pc' := 20) (n := 7) dX0_init_18 rfl (by decide) ?_
  refine j_newaI (pc' := 22) 7 dX0_init_20 rfl (by omega) rfl (by omega) ⟨by decide, by decide⟩ ?_
  refine j_putF (pc' := 25) (v := aR (q + 2)) (fs := [aR 1, aR (q + 1), aN, aN, aN, aN, aN, aN, aI 0, aI 0]) dX0_init_22 rfl p_Car_19 rfl (by omega) (by rw [up_n (by omega)]; exact up_s) (Nat.le_of_ble_eq_true rfl) ⟨rfl, rfl⟩ ?_
  refine j_aload_n (pc' := 26) (z := q) dX0_init_25 rfl rfl ?_
  refine j_bipush (pc' := 28) (n := 7) dX0_init_26 rfl (by decide) ?_
  refine j_newaI (pc' := 30) 7 dX0_init_28 rfl (by omega) rfl (by omega) ⟨by decide, by decide⟩ ?_
  refine j_putF (pc' := 33) (v := aR (q + 3)) (fs := [aR 1, aR (q + 1), aR (q + 2), aN, aN, aN, aN, aN, aI 0, aI 0]) dX0_init_30 rfl p_Car_22 rfl (by omega) (by rw [up_n (by omega)]; exact up_s) (Nat.le_of_ble_eq_true rfl) ⟨rfl, rfl⟩ ?_
  refine j_aload_n (pc' := 34) (z := q) dX0_init_33 rfl rfl ?_
  refine j_bipush (pc' := 36) (n := 7) dX0_init_34 rfl (by decide) ?_
  refine j_newaI (pc' := 38) 7 dX0_init_36 rfl (by omega) rfl (by omega) ⟨by decide, by decide⟩ ?_
  refine j_putF (pc' := 41) (v := aR (q + 4)) (fs := [aR 1, aR (q + 1), aR (q + 2), aR (q + 3), aN, aN, aN, aN, aI 0, aI 0]) dX0_init_38 rfl p_Car_25 rfl (by omega) (by rw [up_n (by omega)]; exact up_s) (Nat.le_of_ble_eq_true rfl) ⟨rfl, rfl⟩ ?_
  refine j_aload_n (pc' := 42) (z := q) dX0_init_41 rfl rfl ?_
  refine j_bipush (pc' := 44) (n := 7) dX0_init_42 rfl (by decide) ?_
  refine j_newaI (pc' := 46) 7 dX0_init_44 rfl (by omega) rfl (by omega) ⟨by decide, by decide⟩ ?_
  refine j_putF (pc' := 49) (v := aR (q + 5)) (fs := [aR 1, aR (q + 1), aR (q + 2), aR (q + 3), aR (q + 4), aN, aN, aN, aI 0, aI 0]) dX0_init_46 rfl p_Car_28 rfl (by omega) (by rw [up_n (by omega)]; exact up_s) (Nat.le_of_ble_eq_true rfl) ⟨rfl, rfl⟩ ?_
  refine j_aload_n (pc' := 50) (z := q) dX0_init_49 rfl rfl ?_
  refine j_bipush (pc' := 52) (n := 7) dX0_init_50 rfl (by decide) ?_
  refine j_newaI (pc' := 54) 7 dX0_init_52 rfl (by omega) rfl (by omega) ⟨by decide, by decide⟩ ?_
  refine j_putF (pc' := 57) (v := aR (q + 6)) (fs := [aR 1, aR (q + 1), aR (q + 2), aR (q + 3), aR (q + 4), aR (q + 5), aN, aN, aI 0, aI 0]) dX0_init_54 rfl p_Car_31 rfl (by omega) (by rw [up_n (by omega)]; exact up_s) (Nat.le_of_ble_eq_true rfl) ⟨rfl, rfl⟩ ?_
  refine j_aload_n (pc' := 58) (z := q) dX0_init_57 rfl rfl ?_
  refine j_iconst (pc' := 59) dX0_init_58 rfl ?_
  refine j_newaI (pc' := 61) 4 dX0_init_59 rfl (by omega) rfl (by omega) ⟨by decide, by decide⟩ ?_
  refine j_dup (pc' := 62) dX0_init_61 rfl rfl ?_
  refine j_iconst (pc' := 63) dX0_init_62 rfl ?_
  refine j_bipush (pc' := 65) (n := 50) dX0_init_63 rfl (by decide) ?_
  refine j_iast (pc' := 66) (n := 4) dX0_init_65 rfl (by omega) up_s (by omega) (by decide) ?_
  refine j_dup (pc' := 67) dX0_init_66 rfl rfl ?_
  refine j_iconst (pc' := 68) dX0_init_67 rfl ?_
  refine j_iconst (pc' := 69) dX0_init_68 rfl ?_
  refine j_iast (pc' := 70) (n := 4) dX0_init_69 rfl (by omega) up_s (by omega) (by decide) ?_
  refine j_dup (pc' := 71) dX0_init_70 rfl rfl ?_
  refine j_iconst (pc' := 72) dX0_init_71 rfl ?_
  refine j_iconst (pc' := 73) dX0_init_72 rfl ?_
  refine j_iast (pc' := 74) (n := 4) dX0_init_73 rfl (by omega) up_s (by omega) (by decide) ?_
  refine j_dup (pc' := 75) dX0_init_74 rfl rfl ?_
  refine j_iconst (pc' := 76) dX0_init_75 rfl ?_
  refine j_iconst (pc' := 77) dX0_init_76 rfl ?_
  refine j_iast (pc' := 78) (n := 4) dX0_init_77 rfl (by omega) up_s (by omega) (by decide) ?_
  refine j_putF (pc' := 81) (v := aR (q + 7)) (fs := [aR 1, aR (q + 1), aR (q + 2), aR (q + 3), aR (q + 4), aR (q + 5), aR (q + 6), aN, aI 0, aI 0]) dX0_init_78 rfl p_Car_34 rfl (by omega) (by rw [up_n (by omega), up_n (by omega), up_n (by omega), up_n (by omega), up_n (by omega)]; exact up_s) (Nat.le_of_ble_eq_true rfl) ⟨rfl, rfl⟩ ?_
  refine j_aload_n (pc' := 82) (z := q) dX0_init_81 rfl rfl ?_
  refine j_iconst (pc' := 83) dX0_init_82 rfl ?_
  refine j_putI (pc' := 86) (fs := [aR 1, aR (q + 1), aR (q + 2), aR (q + 3), aR (q + 4), aR (q + 5), aR (q + 6), aR (q + 7), aI 0, aI 0]) dX0_init_83 rfl p_Car_37 (by omega) up_s (Nat.le_of_ble_eq_true rfl) ?_
  refine j_aload_n (pc' := 87) (z := q) dX0_init_86 rfl rfl ?_
  refine j_iconst (pc' := 88) dX0_init_87 rfl ?_
  refine j_putI (pc' := 91) (fs := [aR 1, aR (q + 1), aR (q + 2), aR (q + 3), aR (q + 4), aR (q + 5), aR (q + 6), aR (q + 7), aI 0, aI 0]) dX0_init_88 rfl p_Car_41 (by omega) up_s (Nat.le_of_ble_eq_true rfl) ?_
  refine j_vret dX0_init_91 rfl ⟨rfl, ⟨up_s, ?_, ?_, ?_, ?_, ?_, ?_, ?_⟩, fun j hj => ?_⟩
  · exact (by repeat (first | exact up_s | rw [up_n (by omega)]))
  · exact (by repeat (first | exact up_s | rw [up_n (by omega)]))
  · exact (by repeat (first | exact up_s | rw [up_n (by omega)]))
  · exact (by repeat (first | exact up_s | rw [up_n (by omega)]))
  · exact (by repeat (first | exact up_s | rw [up_n (by omega)]))
  · exact (by repeat (first | exact up_s | rw [up_n (by omega)]))
  · have h6 : (upi (upi (upi (upi (fun _ => 0) 0 50) 1 5) 2 0) 3 0) = D0 6 := by
      funext j
      unfold upi D0
      (repeat' split) <;> first | rfl | omega
    rw [← h6]
    exact (by repeat (first | exact up_s | rw [up_n (by omega)]))
  · repeat (rw [up_n (by omega)])
theorem KindsAt.congr {w w' : AW} (h : KindsAt w) (hw : ∀ j, 1 ≤ j → j < 10 → w' j = w j) : KindsAt w' := by
  obtain ⟨h1, h2, h3, h4, h5, h6, h7, h8, h9⟩ := h
  exact ⟨by rw [hw 1 (by omega) (by omega)]; exact h1, by rw [hw 2 (by omega) (by omega)]; exact h2, by rw [hw 3 (by omega) (by omega)]; exact h3, by rw [hw 4 (by omega) (by omega)]; exact h4, by rw [hw 5 (by omega) (by omega)]; exact h5, by rw [hw 6 (by omega) (by omega)]; exact h6, by rw [hw 7 (by omega) (by omega)]; exact h7, by rw [hw 8 (by omega) (by omega)]; exact h8, by rw [hw 9 (by omega) (by omega)]; exact h9⟩
theorem CarAt.congr {w w' : AW} {c : Nat} {D : Int → Int → Int} {n mi : Int} (h : CarAt w c D n mi) (hw : ∀ j, c ≤ j → j < c + 8 → w' j = w j) : CarAt w' c D n mi := by
  obtain ⟨h1, h2, h3, h4, h5, h6, h7, h8⟩ := h
  exact ⟨by rw [hw c (by omega) (by omega)]; exact h1, by rw [hw (c + 1) (by omega) (by omega)]; exact h2, by rw [hw (c + 2) (by omega) (by omega)]; exact h3, by rw [hw (c + 3) (by omega) (by omega)]; exact h4, by rw [hw (c + 4) (by omega) (by omega)]; exact h5, by rw [hw (c + 5) (by omega) (by omega)]; exact h6, by rw [hw (c + 6) (by omega) (by omega)]; exact h7, by rw [hw (c + 7) (by omega) (by omega)]; exact h8⟩
theorem ShelfAt.congr {w w' : AW} {c : Nat} {a b d e f : Int} {E : Int → Int} (h : ShelfAt w c a b d e f E) (hw : ∀ j, c ≤ j → j < c + 2 → w' j = w j) : ShelfAt w' c a b d e f E := by
  obtain ⟨h1, h2⟩ := h
  exact ⟨by rw [hw c (by omega) (by omega)]; exact h1, by rw [hw (c + 1) (by omega) (by omega)]; exact h2⟩
abbrev top9 (a b c h k s p d : AV) : AE := eO 10 [a, b, c, h, k, s, p, d]
def sh0 : Int → Int → Int := fun _ _ => 0
set_option maxRecDepth 100000 in
set_option maxHeartbeats 4000000 in
theorem c_Top_init {l : Launch} {w : AW} (hw : w 0 = top9 aN aN aN (aI 0) aN aN aN aN) : Call l m_Top_init true 1 53 [aR 0] w (fun r w' => r = none ∧ Comp w' D0 0 0 0 D0 0 0 sh0 sh0) := by
  refine Call.of (L := [some (aR 0), none]) rfl (Nat.le_of_ble_eq_true rfl) rfl (fun G ad => ?_)
  refine j_aload_n (pc' := 1) (z := 0) dX11_init_0 rfl rfl ?_
  refine j_oinit (pc' := 4) dX11_init_1 rfl s_Top_1 rfl ?_
  refine j_aload_n (pc' := 5) (z := 0) dX11_init_4 rfl rfl ?_
  refine j_bipush (pc' := 7) (n := 8) dX11_init_5 rfl (by decide) ?_
  refine j_newq (pc' := 10) (t := 2) (Cn := "RattleAtFifty$Part") 8 dX11_init_7 rfl rfl (gt_1 71 (by decide +kernel) (by decide +kernel)) (fun s h => h.2.2.2.1) (by omega) rfl (by omega) ⟨by decide, by decide⟩ ?_
  refine j_dup (pc' := 11) dX11_init_10 rfl rfl ?_
  refine j_iconst (pc' := 12) dX11_init_11 rfl ?_
  refine j_new (pc' := 15) (Cn := RX7) (T := TX7) (Nf := 0) (ci := 7) [] dX11_init_12 rfl rfl (gt_1 71 (by decide +kernel) (by decide +kernel)) cin_7 cit_7 tyX7 tyX7_ok (by intro ad j hj; cases hj) (by omega) ⟨by first | decide | (show _ ≤ (52 : Nat); omega), by first | decide | (show _ ≤ (1103 : Nat); omega)⟩ ?_
  refine j_dup (pc' := 16) dX11_init_15 rfl rfl ?_
  refine j_callIN (pc' := 19) (q := 2) (as := []) (rest := [aR 2, aI 0, aR 1, aR 1, aR 0]) dX11_init_16 rfl s_Top_9 c_Part_init rfl rfl rfl (jdet (st' := [aR 2, aI 0, aR 1, aR 1, aR 0]) rfl ?_)
  refine j_aast (pc' := 20) (q := 1) (qk := 2) (t := 2) (n := 8) (ci := 7) (fs := []) (En := "RattleAtFifty$Part") (f := (fun _ => none)) (i := 0) dX11_init_19 rfl (by omega) (by rw [up_n (by omega)]; exact up_s) rfl (by omega) up_s rfl (Or.inl rfl) (by omega) (by decide) ?_
  refine j_dup (pc' := 21) dX11_init_20 rfl rfl ?_
  refine j_iconst (pc' := 22) dX11_init_21 rfl ?_
  refine j_new (pc' := 25) (Cn := RX6) (T := TX6) (Nf := 0) (ci := 6) [] dX11_init_22 rfl rfl (gt_1 79 (by decide +kernel) (by decide +kernel)) cin_6 cit_6 tyX6 tyX6_ok (by intro ad j hj; cases hj) (by omega) ⟨by first | decide | (show _ ≤ (52 : Nat); omega), by first | decide | (show _ ≤ (1103 : Nat); omega)⟩ ?_
  refine j_dup (pc' := 26) dX11_init_25 rfl rfl ?_
  refine j_callIN (pc' := 29) (q := 3) (as := []) (rest := [aR 3, aI 1, aR 1, aR 1, aR 0]) dX11_init_26 rfl s_Top_12 c_Loose_init rfl rfl rfl (jdet (st' := [aR 3, aI 1, aR 1, aR 1, aR 0]) rfl ?_)
  refine j_aast (pc' := 30) (q := 1) (qk := 3) (t := 2) (n := 8) (ci := 6) (fs := []) (En := "RattleAtFifty$Part") (f := (upr (fun _ => none) 0 2)) (i := 1) dX11_init_29 rfl (by omega) (by rw [up_n (by omega)]; exact up_s) rfl (by omega) up_s rfl (Or.inr (ft_ps (ws := [.castable "RattleAtFifty$Loose" "RattleAtFifty$Part"]) [1354] (by decide +kernel) (by decide +kernel) _ List.mem_cons_self)) (by omega) (by decide) ?_
  refine j_dup (pc' := 31) dX11_init_30 rfl rfl ?_
  refine j_iconst (pc' := 32) dX11_init_31 rfl ?_
  refine j_new (pc' := 35) (Cn := RX10) (T := TX10) (Nf := 0) (ci := 9) [] dX11_init_32 rfl rfl (gt_1 86 (by decide +kernel) (by decide +kernel)) cin_9 cit_9 tyX10 tyX10_ok (by intro ad j hj; cases hj) (by omega) ⟨by first | decide | (show _ ≤ (52 : Nat); omega), by first | decide | (show _ ≤ (1103 : Nat); omega)⟩ ?_
  refine j_dup (pc' := 36) dX11_init_35 rfl rfl ?_
  refine j_callIN (pc' := 39) (q := 4) (as := []) (rest := [aR 4, aI 2, aR 1, aR 1, aR 0]) dX11_init_36 rfl s_Top_15 c_Tinny_init rfl rfl rfl (jdet (st' := [aR 4, aI 2, aR 1, aR 1, aR 0]) rfl ?_)
  refine j_aast (pc' := 40) (q := 1) (qk := 4) (t := 2) (n := 8) (ci := 9) (fs := []) (En := "RattleAtFifty$Part") (f := (upr (upr (fun _ => none) 0 2) 1 3)) (i := 2) dX11_init_39 rfl (by omega) (by rw [up_n (by omega)]; exact up_s) rfl (by omega) up_s rfl (Or.inr (ft_ps (ws := [.castable "RattleAtFifty$Tinny" "RattleAtFifty$Part"]) [1355] (by decide +kernel) (by decide +kernel) _ List.mem_cons_self)) (by omega) (by decide) ?_
  refine j_dup (pc' := 41) dX11_init_40 rfl rfl ?_
  refine j_iconst (pc' := 42) dX11_init_41 rfl ?_
  refine j_new (pc' := 45) (Cn := RX4) (T := TX4) (Nf := 0) (ci := 4) [] dX11_init_42 rfl rfl (gt_1 93 (by decide +kernel) (by decide +kernel)) cin_4 cit_4 tyX4 tyX4_ok (by intro ad j hj; cases hj) (by omega) ⟨by first | decide | (show _ ≤ (52 : Nat); omega), by first | decide | (show _ ≤ (1103 : Nat); omega)⟩ ?_
  refine j_dup (pc' := 46) dX11_init_45 rfl rfl ?_
  refine j_callIN (pc' := 49) (q := 5) (as := []) (rest := [aR 5, aI 3, aR 1, aR 1, aR 0]) dX11_init_46 rfl s_Top_18 c_Frosty_init rfl rfl rfl (jdet (st' := [aR 5, aI 3, aR 1, aR 1, aR 0]) rfl ?_)
  refine j_aast (pc' := 50) (q := 1) (qk := 5) (t := 2) (n := 8) (ci := 4) (fs := []) (En := "RattleAtFifty$Part") (f := (upr (upr (upr (fun _ => none) 0 2) 1 3) 2 4)) (i := 3) dX11_init_49 rfl (by omega) (by rw [up_n (by omega)]; exact up_s) rfl (by omega) up_s rfl (Or.inr (ft_ps (ws := [.castable "RattleAtFifty$Frosty" "RattleAtFifty$Part"]) [1356] (by decide +kernel) (by decide +kernel) _ List.mem_cons_self)) (by omega) (by decide) ?_
  refine j_dup (pc' := 51) dX11_init_50 rfl rfl ?_
  refine j_iconst (pc' := 52) dX11_init_51 rfl ?_
  refine j_new (pc' := 55) (Cn := RX5) (T := TX5) (Nf := 0) (ci := 5) [] dX11_init_52 rfl rfl (gt_1 100 (by decide +kernel) (by decide +kernel)) cin_5 cit_5 tyX5 tyX5_ok (by intro ad j hj; cases hj) (by omega) ⟨by first | decide | (show _ ≤ (52 : Nat); omega), by first | decide | (show _ ≤ (1103 : Nat); omega)⟩ ?_
  refine j_dup (pc' := 56) dX11_init_55 rfl rfl ?_
  refine j_callIN (pc' := 59) (q := 6) (as := []) (rest := [aR 6, aI 4, aR 1, aR 1, aR 0]) dX11_init_56 rfl s_Top_21 c_Heavy_init rfl rfl rfl (jdet (st' := [aR 6, aI 4, aR 1, aR 1, aR 0]) rfl ?_)
  refine j_aast (pc' := 60) (q := 1) (qk := 6) (t := 2) (n := 8) (ci := 5) (fs := []) (En := "RattleAtFifty$Part") (f := (upr (upr (upr (upr (fun _ => none) 0 2) 1 3) 2 4) 3 5)) (i := 4) dX11_init_59 rfl (by omega) (by rw [up_n (by omega)]; exact up_s) rfl (by omega) up_s rfl (Or.inr (ft_ps (ws := [.castable "RattleAtFifty$Heavy" "RattleAtFifty$Part"]) [1357] (by decide +kernel) (by decide +kernel) _ List.mem_cons_self)) (by omega) (by decide) ?_
  refine j_dup (pc' := 61) dX11_init_60 rfl rfl ?_
  refine j_iconst (pc' := 62) dX11_init_61 rfl ?_
  refine j_new (pc' := 65) (Cn := RX3) (T := TX3) (Nf := 0) (ci := 3) [] dX11_init_62 rfl rfl (gt_1 107 (by decide +kernel) (by decide +kernel)) cin_3 cit_3 tyX3 tyX3_ok (by intro ad j hj; cases hj) (by omega) ⟨by first | decide | (show _ ≤ (52 : Nat); omega), by first | decide | (show _ ≤ (1103 : Nat); omega)⟩ ?_
  refine j_dup (pc' := 66) dX11_init_65 rfl rfl ?_
  refine j_callIN (pc' := 69) (q := 7) (as := []) (rest := [aR 7, aI 5, aR 1, aR 1, aR 0]) dX11_init_66 rfl s_Top_24 c_Doubled_init rfl rfl rfl (jdet (st' := [aR 7, aI 5, aR 1, aR 1, aR 0]) rfl ?_)
  refine j_aast (pc' := 70) (q := 1) (qk := 7) (t := 2) (n := 8) (ci := 3) (fs := []) (En := "RattleAtFifty$Part") (f := (upr (upr (upr (upr (upr (fun _ => none) 0 2) 1 3) 2 4) 3 5) 4 6)) (i := 5) dX11_init_69 rfl (by omega) (by rw [up_n (by omega)]; exact up_s) rfl (by omega) up_s rfl (Or.inr (ft_ps (ws := [.castable "RattleAtFifty$Doubled" "RattleAtFifty$Part"]) [1358] (by decide +kernel) (by decide +kernel) _ List.mem_cons_self)) (by omega) (by decide) ?_
  refine j_dup (pc' := 71) dX11_init_70 rfl rfl ?_
  refine j_bipush (pc' := 73) (n := 6) dX11_init_71 rfl (by decide) ?_
  refine j_new (pc' := 76) (Cn := RX1) (T := TX1) (Nf := 0) (ci := 1) [] dX11_init_73 rfl rfl (gt_1 114 (by decide +kernel) (by decide +kernel)) cin_1 cit_1 tyX1 tyX1_ok (by intro ad j hj; cases hj) (by omega) ⟨by first | decide | (show _ ≤ (52 : Nat); omega), by first | decide | (show _ ≤ (1103 : Nat); omega)⟩ ?_
  refine j_dup (pc' := 77) dX11_init_76 rfl rfl ?_
  refine j_callIN (pc' := 80) (q := 8) (as := []) (rest := [aR 8, aI 6, aR 1, aR 1, aR 0]) dX11_init_77 rfl s_Top_27 c_Dead_init rfl rfl rfl (jdet (st' := [aR 8, aI 6, aR 1, aR 1, aR 0]) rfl ?_)
  refine j_aast (pc' := 81) (q := 1) (qk := 8) (t := 2) (n := 8) (ci := 1) (fs := []) (En := "RattleAtFifty$Part") (f := (upr (upr (upr (upr (upr (upr (fun _ => none) 0 2) 1 3) 2 4) 3 5) 4 6) 5 7)) (i := 6) dX11_init_80 rfl (by omega) (by rw [up_n (by omega)]; exact up_s) rfl (by omega) up_s rfl (Or.inr (ft_ps (ws := [.castable "RattleAtFifty$Dead" "RattleAtFifty$Part"]) [1359] (by decide +kernel) (by decide +kernel) _ List.mem_cons_self)) (by omega) (by decide) ?_
  refine j_dup (pc' := 82) dX11_init_81 rfl rfl ?_
  refine j_bipush (pc' := 84) (n := 7) dX11_init_82 rfl (by decide) ?_
  refine j_new (pc' := 87) (Cn := RX2) (T := TX2) (Nf := 0) (ci := 2) [] dX11_init_84 rfl rfl (gt_1 121 (by decide +kernel) (by decide +kernel)) cin_2 cit_2 tyX2 tyX2_ok (by intro ad j hj; cases hj) (by omega) ⟨by first | decide | (show _ ≤ (52 : Nat); omega), by first | decide | (show _ ≤ (1103 : Nat); omega)⟩ ?_
  refine j_dup (pc' := 88) dX11_init_87 rfl rfl ?_
  refine j_callIN (pc' := 91) (q := 9) (as := []) (rest := [aR 9, aI 7, aR 1, aR 1, aR 0]) dX11_init_88 rfl s_Top_30 c_Deep_init rfl rfl rfl (jdet (st' := [aR 9, aI 7, aR 1, aR 1, aR 0]) rfl ?_)
  refine j_aast (pc' := 92) (q := 1) (qk := 9) (t := 2) (n := 8) (ci := 2) (fs := []) (En := "RattleAtFifty$Part") (f := (upr (upr (upr (upr (upr (upr (upr (fun _ => none) 0 2) 1 3) 2 4) 3 5) 4 6) 5 7) 6 8)) (i := 7) dX11_init_91 rfl (by omega) (by rw [up_n (by omega)]; exact up_s) rfl (by omega) up_s rfl (Or.inr (ft_ps (ws := [.castable "RattleAtFifty$Deep" "RattleAtFifty$Part"]) [1360] (by decide +kernel) (by decide +kernel) _ List.mem_cons_self)) (by omega) (by decide) ?_
  refine j_extR (q := 1) (t := 2) (n := 8) (f := (upr (upr (upr (upr (upr (upr (upr (upr (fun _ => none) 0 2) 1 3) 2 4) 3 5) 4 6) 5 7) 6 8) 7 9)) (g := kref) (by omega) up_s (fun i h1 h2 => ?_) ?_
  · unfold kref
    rcases (show i = 0 ∨ i = 1 ∨ i = 2 ∨ i = 3 ∨ i = 4 ∨ i = 5 ∨ i = 6 ∨ i = 7 by omega) with rfl | rfl | rfl | rfl | rfl | rfl | rfl | rfl <;> rfl
  have hK : ∀ W9 : AW, (∀ j, 1 ≤ j → j < 10 → W9 j = (up (up (up (up (up (up (up (up (up w 2 (eO 7 [])) 3 (eO 6 [])) 4 (eO 9 [])) 5 (eO 4 [])) 6 (eO 5 [])) 7 (eO 3 [])) 8 (eO 1 [])) 9 (eO 2 [])) 1 (eR 2 8 kref)) j) → KindsAt W9 := by
    intro W9 h9
    refine KindsAt.congr ?_ h9
    exact ⟨by simp [up], by simp [up], by simp [up], by simp [up], by simp [up], by simp [up], by simp [up], by simp [up], by simp [up]⟩
  generalize hW1 : up _ 1 (eR 2 8 kref) = w1
  have hk1 : KindsAt w1 := by
    refine hK w1 (fun j h1 h2 => ?_)
    rw [← hW1]
    rcases (show j = 1 ∨ j = 2 ∨ j = 3 ∨ j = 4 ∨ j = 5 ∨ j = 6 ∨ j = 7 ∨ j = 8 ∨ j = 9 by omega) with rfl | rfl | rfl | rfl | rfl | rfl | rfl | rfl | rfl <;> simp [up]
  have h01 : w1 0 = top9 aN aN aN (aI 0) aN aN aN aN := by
    rw [← hW1]
    simp [up, hw]
  clear hK hW1 hw
  refine j_putF (pc' := 95) (v := aR 1) (fs := [aN, aN, aN, aI 0, aN, aN, aN, aN]) dX11_init_92 rfl p_Top_31 rfl (by omega) h01 (Nat.le_of_ble_eq_true rfl) ⟨rfl, rfl⟩ ?_
  have hk2 : KindsAt (up w1 0 (top9 aN aN aN (aI 0) (aR 1) aN aN aN)) := hk1.congr (fun j h1 h2 => up_n (by omega))
  have h02 : up w1 0 (top9 aN aN aN (aI 0) (aR 1) aN aN aN) 0 = top9 aN aN aN (aI 0) (aR 1) aN aN aN := up_s
  show J l m_Top_init ad G [] true _ 10 9 8 95 [some (aR 0), none] [] (up w1 0 (top9 aN aN aN (aI 0) (aR 1) aN aN aN))
  generalize up w1 0 (top9 aN aN aN (aI 0) (aR 1) aN aN aN) = w2 at hk2 h02 ⊢
  clear hk1 h01
  refine j_aload_n (pc' := 96) (z := 0) dX11_init_95 rfl rfl ?_
  refine j_new (pc' := 99) (Cn := RX0) (T := TX0) (Nf := 10) (ci := 0) [aN, aN, aN, aN, aN, aN, aN, aN, aI 0, aI 0] dX11_init_96 rfl rfl (gt_1 128 (by decide +kernel) (by decide +kernel)) cin_0 cit_0 tyX0 tyX0_ok (by intro ad j hj; rcases (show j = 0 ∨ j = 1 ∨ j = 2 ∨ j = 3 ∨ j = 4 ∨ j = 5 ∨ j = 6 ∨ j = 7 ∨ j = 8 ∨ j = 9 by omega) with rfl | rfl | rfl | rfl | rfl | rfl | rfl | rfl | rfl | rfl <;> rfl) (by omega) ⟨by first | decide | (show _ ≤ (52 : Nat); omega), by first | decide | (show _ ≤ (1103 : Nat); omega)⟩ ?_
  refine j_dup (pc' := 100) dX11_init_99 rfl rfl ?_
  refine j_aload_n (pc' := 101) (z := 0) dX11_init_100 rfl rfl ?_
  refine j_get (pc' := 104) (v := aR 1) dX11_init_101 rfl f_Top_31 (by omega) (by rw [up_n (by omega)]; exact h02) rfl ?_
  refine j_callI (pc' := 107) (q := 10) (as := [aR 1]) (rest := [aR 10, aR 0]) dX11_init_104 rfl s_Top_39 (c_Car_init (q := 10) (by omega) (by omega) up_s) rfl rfl rfl (fun r9 w9 h9 => ?_)
  obtain ⟨rfl, hc0, hf9⟩ := h9
  have hk9 := hk2.congr (w' := w9) (fun j h1 h2 => by rw [hf9 j (by omega), up_n (by omega)])
  have h09 : w9 0 = top9 (aN) (aN) (aN) (aI 0) (aR 1) (aN) (aN) (aN) := by rw [hf9 0 (by omega), up_n (by omega)]; exact h02
  refine j_putF (pc' := 110) (v := aR 10) (fs := [aN, aN, aN, aI 0, aR 1, aN, aN, aN]) dX11_init_107 rfl p_Top_42 rfl (by omega) h09 (Nat.le_of_ble_eq_true rfl) ⟨rfl, rfl⟩ ?_
  show J l m_Top_init ad G [] true _ 18 17 64 110 [some (aR 0), none] [] (up w9 0 (top9 (aR 10) (aN) (aN) (aI 0) (aR 1) (aN) (aN) (aN)))
  have hk3 : KindsAt (up w9 0 (top9 (aR 10) (aN) (aN) (aI 0) (aR 1) (aN) (aN) (aN))) := hk9.congr (fun j h1 h2 => up_n (by omega))
  have h03 : up w9 0 (top9 (aR 10) (aN) (aN) (aI 0) (aR 1) (aN) (aN) (aN)) 0 = top9 (aR 10) (aN) (aN) (aI 0) (aR 1) (aN) (aN) (aN) := up_s
  replace hc0 := hc0.congr (w' := up w9 0 (top9 (aR 10) (aN) (aN) (aI 0) (aR 1) (aN) (aN) (aN))) (fun j h1 h2 => up_n (by omega))
  generalize up w9 0 (top9 (aR 10) (aN) (aN) (aI 0) (aR 1) (aN) (aN) (aN)) = w3 at hk3 h03 hc0 ⊢
  clear hk2 h02 hk9 h09 hf9
  refine j_aload_n (pc' := 111) (z := 0) dX11_init_110 rfl rfl ?_
  refine j_new (pc' := 114) (Cn := RX0) (T := TX0) (Nf := 10) (ci := 0) [aN, aN, aN, aN, aN, aN, aN, aN, aI 0, aI 0] dX11_init_111 rfl rfl (gt_1 128 (by decide +kernel) (by decide +kernel)) cin_0 cit_0 tyX0 tyX0_ok (by intro ad j hj; rcases (show j = 0 ∨ j = 1 ∨ j = 2 ∨ j = 3 ∨ j = 4 ∨ j = 5 ∨ j = 6 ∨ j = 7 ∨ j = 8 ∨ j = 9 by omega) with rfl | rfl | rfl | rfl | rfl | rfl | rfl | rfl | rfl | rfl <;> rfl) (by omega) ⟨by first | decide | (show _ ≤ (52 : Nat); omega), by first | decide | (show _ ≤ (1103 : Nat); omega)⟩ ?_
  refine j_dup (pc' := 115) dX11_init_114 rfl rfl ?_
  refine j_aload_n (pc' := 116) (z := 0) dX11_init_115 rfl rfl ?_
  refine j_get (pc' := 119) (v := aR 1) dX11_init_116 rfl f_Top_31 (by omega) (by rw [up_n (by omega)]; exact h03) rfl ?_
  refine j_callI (pc' := 122) (q := 18) (as := [aR 1]) (rest := [aR 18, aR 0]) dX11_init_119 rfl s_Top_39 (c_Car_init (q := 18) (by omega) (by omega) up_s) rfl rfl rfl (fun r9 w9 h9 => ?_)
  obtain ⟨rfl, hc1, hf9⟩ := h9
  have hk9 := hk3.congr (w' := w9) (fun j h1 h2 => by rw [hf9 j (by omega), up_n (by omega)])
  have h09 : w9 0 = top9 (aR 10) (aN) (aN) (aI 0) (aR 1) (aN) (aN) (aN) := by rw [hf9 0 (by omega), up_n (by omega)]; exact h03
  replace hc0 := hc0.congr (w' := w9) (fun j h1 h2 => by rw [hf9 j (by omega), up_n (by omega)])
  refine j_putF (pc' := 125) (v := aR 18) (fs := [aR 10, aN, aN, aI 0, aR 1, aN, aN, aN]) dX11_init_122 rfl p_Top_46 rfl (by omega) h09 (Nat.le_of_ble_eq_true rfl) ⟨rfl, rfl⟩ ?_
  show J l m_Top_init ad G [] true _ 26 25 120 125 [some (aR 0), none] [] (up w9 0 (top9 (aR 10) (aR 18) (aN) (aI 0) (aR 1) (aN) (aN) (aN)))
  have hk4 : KindsAt (up w9 0 (top9 (aR 10) (aR 18) (aN) (aI 0) (aR 1) (aN) (aN) (aN))) := hk9.congr (fun j h1 h2 => up_n (by omega))
  have h04 : up w9 0 (top9 (aR 10) (aR 18) (aN) (aI 0) (aR 1) (aN) (aN) (aN)) 0 = top9 (aR 10) (aR 18) (aN) (aI 0) (aR 1) (aN) (aN) (aN) := up_s
  replace hc0 := hc0.congr (w' := up w9 0 (top9 (aR 10) (aR 18) (aN) (aI 0) (aR 1) (aN) (aN) (aN))) (fun j h1 h2 => up_n (by omega))
  replace hc1 := hc1.congr (w' := up w9 0 (top9 (aR 10) (aR 18) (aN) (aI 0) (aR 1) (aN) (aN) (aN))) (fun j h1 h2 => up_n (by omega))
  generalize up w9 0 (top9 (aR 10) (aR 18) (aN) (aI 0) (aR 1) (aN) (aN) (aN)) = w4 at hk4 h04 hc0 hc1 ⊢
  clear hk3 h03 hk9 h09 hf9
  refine j_aload_n (pc' := 126) (z := 0) dX11_init_125 rfl rfl ?_
  refine j_new (pc' := 129) (Cn := RX0) (T := TX0) (Nf := 10) (ci := 0) [aN, aN, aN, aN, aN, aN, aN, aN, aI 0, aI 0] dX11_init_126 rfl rfl (gt_1 128 (by decide +kernel) (by decide +kernel)) cin_0 cit_0 tyX0 tyX0_ok (by intro ad j hj; rcases (show j = 0 ∨ j = 1 ∨ j = 2 ∨ j = 3 ∨ j = 4 ∨ j = 5 ∨ j = 6 ∨ j = 7 ∨ j = 8 ∨ j = 9 by omega) with rfl | rfl | rfl | rfl | rfl | rfl | rfl | rfl | rfl | rfl <;> rfl) (by omega) ⟨by first | decide | (show _ ≤ (52 : Nat); omega), by first | decide | (show _ ≤ (1103 : Nat); omega)⟩ ?_
  refine j_dup (pc' := 130) dX11_init_129 rfl rfl ?_
  refine j_aload_n (pc' := 131) (z := 0) dX11_init_130 rfl rfl ?_
  refine j_get (pc' := 134) (v := aR 1) dX11_init_131 rfl f_Top_31 (by omega) (by rw [up_n (by omega)]; exact h04) rfl ?_
  refine j_callI (pc' := 137) (q := 26) (as := [aR 1]) (rest := [aR 26, aR 0]) dX11_init_134 rfl s_Top_39 (c_Car_init (q := 26) (by omega) (by omega) up_s) rfl rfl rfl (fun r9 w9 h9 => ?_)
  obtain ⟨rfl, hc2, hf9⟩ := h9
  have hk9 := hk4.congr (w' := w9) (fun j h1 h2 => by rw [hf9 j (by omega), up_n (by omega)])
  have h09 : w9 0 = top9 (aR 10) (aR 18) (aN) (aI 0) (aR 1) (aN) (aN) (aN) := by rw [hf9 0 (by omega), up_n (by omega)]; exact h04
  replace hc0 := hc0.congr (w' := w9) (fun j h1 h2 => by rw [hf9 j (by omega), up_n (by omega)])
  replace hc1 := hc1.congr (w' := w9) (fun j h1 h2 => by rw [hf9 j (by omega), up_n (by omega)])
  refine j_putF (pc' := 140) (v := aR 26) (fs := [aR 10, aR 18, aN, aI 0, aR 1, aN, aN, aN]) dX11_init_137 rfl p_Top_49 rfl (by omega) h09 (Nat.le_of_ble_eq_true rfl) ⟨rfl, rfl⟩ ?_
  show J l m_Top_init ad G [] true _ 34 33 176 140 [some (aR 0), none] [] (up w9 0 (top9 (aR 10) (aR 18) (aR 26) (aI 0) (aR 1) (aN) (aN) (aN)))
  have hk5 : KindsAt (up w9 0 (top9 (aR 10) (aR 18) (aR 26) (aI 0) (aR 1) (aN) (aN) (aN))) := hk9.congr (fun j h1 h2 => up_n (by omega))
  have h05 : up w9 0 (top9 (aR 10) (aR 18) (aR 26) (aI 0) (aR 1) (aN) (aN) (aN)) 0 = top9 (aR 10) (aR 18) (aR 26) (aI 0) (aR 1) (aN) (aN) (aN) := up_s
  replace hc0 := hc0.congr (w' := up w9 0 (top9 (aR 10) (aR 18) (aR 26) (aI 0) (aR 1) (aN) (aN) (aN))) (fun j h1 h2 => up_n (by omega))
  replace hc1 := hc1.congr (w' := up w9 0 (top9 (aR 10) (aR 18) (aR 26) (aI 0) (aR 1) (aN) (aN) (aN))) (fun j h1 h2 => up_n (by omega))
  replace hc2 := hc2.congr (w' := up w9 0 (top9 (aR 10) (aR 18) (aR 26) (aI 0) (aR 1) (aN) (aN) (aN))) (fun j h1 h2 => up_n (by omega))
  generalize up w9 0 (top9 (aR 10) (aR 18) (aR 26) (aI 0) (aR 1) (aN) (aN) (aN)) = w5 at hk5 h05 hc0 hc1 hc2 ⊢
  clear hk4 h04 hk9 h09 hf9
  refine j_aload_n (pc' := 141) (z := 0) dX11_init_140 rfl rfl ?_
  refine j_iconst (pc' := 142) dX11_init_141 rfl ?_
  refine j_put (pc' := 145) (v := aI 0) (fs := [aR 10, aR 18, aR 26, aI 0, aR 1, aN, aN, aN]) dX11_init_142 rfl p_Top_52 (by omega) h05 (Nat.le_of_ble_eq_true rfl) ⟨rfl, rfl⟩ (j_w (up_id h05) ?_)
  refine j_aload_n (pc' := 146) (z := 0) dX11_init_145 rfl rfl ?_
  refine j_bipush (pc' := 148) (n := 8) dX11_init_146 rfl (by decide) ?_
  refine j_newq (pc' := 151) (t := 3) (Cn := "RattleAtFifty$Shelf") 8 dX11_init_148 rfl rfl (gt_1 174 (by decide +kernel) (by decide +kernel)) (fun s h => h.2.2.2.2.1) (by omega) rfl (by omega) ⟨by decide, by decide⟩ ?_
  refine j_putF (pc' := 154) (v := aR 34) (fs := [aR 10, aR 18, aR 26, aI 0, aR 1, aN, aN, aN]) dX11_init_151 rfl p_Top_58 rfl (by omega) (by rw [up_n (by omega)]; exact h05) (Nat.le_of_ble_eq_true rfl) ⟨rfl, rfl⟩ ?_
  refine j_iconst (pc' := 155) dX11_init_154 rfl ?_
  refine j_istore_n (pc' := 156) (L' := [some (aR 0), some (aI 0)]) dX11_init_155 rfl (by decide) rfl ?_
  have lp : ∀ (m : Nat) (i : Nat) (f : Int → Option Nat) (w : AW), i + m = 8 → w 0 = top9 (aR 10) (aR 18) (aR 26) (aI 0) (aR 1) (aR 34) (aN) (aN) → KindsAt w → CarAt w 10 D0 0 0 → CarAt w 18 D0 0 0 → CarAt w 26 D0 0 0 → w 34 = eR 3 8 f → (∀ d : Int, 0 ≤ d → d < i → f d = sref d ∧ ShelfAt w (35 + 2 * d.toNat) 0 0 0 0 0 (fun _ => 0)) →
      J l m_Top_init ad G [] true (jZ ad G true 53 52 1103 (fun r w' => r = none ∧ Comp w' D0 0 0 0 D0 0 0 sh0 sh0)) (35 + 2 * i) (34 + 2 * i) (184 + 106 * i) 156 [some (aR 0), some (aI i)] [] w := by
    intro m
    induction m with
    | zero =>
      intro i f w hi h0 hk hc0 hc1 hc2 hs hsh
      refine j_iload_n (pc' := 157) (z := i) dX11_init_156 rfl rfl ?_
      refine j_bipush (pc' := 159) (n := 8) dX11_init_157 rfl (by decide) ?_
      refine j_icmp_ge (tgt := 181) (pc' := 162) dX11_init_159 (by decide) rfl (by omega) (by omega) (fun h => ?_) (fun h => by omega)
      have hi8 : i = 8 := by omega
      subst hi8
      refine j_extR (q := 34) (t := 3) (n := 8) (f := f) (g := sref) (by omega) hs (fun d h1 h2 => (hsh d h1 (by omega)).1) ?_
      refine j_forget (L' := [some (aR 0), none]) 1 rfl ?_
      refine j_aload_n (pc' := 182) (z := 0) dX11_init_181 rfl rfl ?_
      refine j_bipush (pc' := 184) (n := 7) dX11_init_182 rfl (by decide) ?_
      refine j_newaI (pc' := 186) 7 dX11_init_184 rfl (by omega) rfl (by omega) ⟨by decide, by decide⟩ ?_
      refine j_putF (pc' := 189) (v := aR 51) (fs := [aR 10, aR 18, aR 26, aI 0, aR 1, aR 34, aN, aN]) dX11_init_186 rfl p_Top_63 rfl (by omega) (by rw [up_n (by omega), up_n (by omega)]; exact h0) (Nat.le_of_ble_eq_true rfl) ⟨rfl, rfl⟩ ?_
      refine j_aload_n (pc' := 190) (z := 0) dX11_init_189 rfl rfl ?_
      refine j_bipush (pc' := 192) (n := 64) dX11_init_190 rfl (by decide) ?_
      refine j_newaI (pc' := 194) 64 dX11_init_192 rfl (by omega) rfl (by omega) ⟨by decide, by decide⟩ ?_
      refine j_putF (pc' := 197) (v := aR 52) (fs := [aR 10, aR 18, aR 26, aI 0, aR 1, aR 34, aR 51, aN]) dX11_init_194 rfl p_Top_67 rfl (by omega) (by rw [up_n (by omega)]; exact up_s) (Nat.le_of_ble_eq_true rfl) ⟨rfl, rfl⟩ ?_
      have keep : ∀ j, j < 51 → j ≠ 0 → j ≠ 34 → up (up (up (up (up w 34 (eR 3 8 sref)) 51 (eI 7 (fun _ => 0))) 0 (eO 10 [aR 10, aR 18, aR 26, aI 0, aR 1, aR 34, aR 51, aN])) 52 (eI 64 (fun _ => 0))) 0 (eO 10 [aR 10, aR 18, aR 26, aI 0, aR 1, aR 34, aR 51, aR 52]) j = w j := by
        intro j h1 h2 h3
        rw [up_n (by omega), up_n (by omega), up_n (by omega), up_n (by omega), up_n (by omega)]
      refine j_vret dX11_init_197 rfl ⟨rfl, up_s, hk.congr (fun j h1 h2 => keep j (by omega) (by omega) (by omega)), hc0.congr (fun j h1 h2 => keep j (by omega) (by omega) (by omega)), ⟨D0, 0, 0, hc1.congr (fun j h1 h2 => keep j (by omega) (by omega) (by omega))⟩, hc2.congr (fun j h1 h2 => keep j (by omega) (by omega) (by omega)), (by repeat (first | exact up_s | rw [up_n (by omega)])), fun d hd => (hsh d hd.1 (by omega)).2.congr (fun j h1 h2 => keep j (by omega) (by omega) (by omega)), ⟨fun _ => 0, (by repeat (first | exact up_s | rw [up_n (by omega)]))⟩, ⟨fun _ => 0, (by repeat (first | exact up_s | rw [up_n (by omega)]))⟩⟩
    | succ m ih =>
      intro i f w hi h0 hk hc0 hc1 hc2 hs hsh
      refine j_iload_n (pc' := 157) (z := i) dX11_init_156 rfl rfl ?_
      refine j_bipush (pc' := 159) (n := 8) dX11_init_157 rfl (by decide) ?_
      refine j_icmp_ge (tgt := 181) (pc' := 162) dX11_init_159 (by decide) rfl (by omega) (by omega) (fun h => by omega) (fun h => ?_)
      refine j_aload_n (pc' := 163) (z := 0) dX11_init_162 rfl rfl ?_
      refine j_get (pc' := 166) (v := aR 34) dX11_init_163 rfl f_Top_58 (by omega) h0 rfl ?_
      refine j_iload_n (pc' := 167) (z := i) dX11_init_166 rfl rfl ?_
      refine j_new (pc' := 170) (Cn := RX9) (T := TX9) (Nf := 6) (ci := 8) [aI 0, aI 0, aI 0, aI 0, aI 0, aN] dX11_init_167 rfl rfl (gt_1 174 (by decide +kernel) (by decide +kernel)) cin_8 cit_8 tyX9 tyX9_ok (by intro ad j hj; rcases (show j = 0 ∨ j = 1 ∨ j = 2 ∨ j = 3 ∨ j = 4 ∨ j = 5 by omega) with rfl | rfl | rfl | rfl | rfl | rfl <;> rfl) (by omega) ⟨by first | decide | (show _ ≤ (52 : Nat); omega), by first | decide | (show _ ≤ (1103 : Nat); omega)⟩ ?_
      refine j_dup (pc' := 171) dX11_init_170 rfl rfl ?_
      refine j_callI (pc' := 174) (q := 35 + 2 * i) (as := []) (rest := [aR (35 + 2 * i), aI i, aR 34]) dX11_init_171 rfl s_Top_62 (c_Shelf_init (q := 35 + 2 * i) (by omega) up_s) rfl rfl ?_ (fun r9 w9 h9 => ?_)
      · simp only [rmB, Bool.and_eq_true, decide_eq_true_eq]
        refine ⟨⟨⟨⟨by decide, by decide⟩, Nat.le_of_ble_eq_true rfl⟩, ?_⟩, ?_⟩
        · show 34 + 2 * i + 1 + 1 ≤ 52; omega
        · show 184 + 106 * i + 6 + 100 ≤ 1103; omega
      obtain ⟨rfl, hc9, hf9⟩ := h9
      have kp : ∀ j, j < 35 + 2 * i → w9 j = w j := fun j hj => by rw [hf9 j hj, up_n (by omega)]
      refine j_aast (pc' := 175) (q := 34) (qk := 35 + 2 * i) (t := 3) (n := 8) (ci := 8) (En := "RattleAtFifty$Shelf") (f := f) (i := i) dX11_init_174 rfl (by omega) (by rw [kp 34 (by omega)]; exact hs) rfl (by omega) hc9.1 rfl (Or.inl rfl) (by omega) (by decide) ?_
      refine j_iinc (pc' := 178) (L' := [some (aR 0), some (aI ((i + 1 : Nat) : Int))]) (z' := ((i + 1 : Nat) : Int)) dX11_init_175 rfl (by decide) rfl (by omega) rfl ?_
      refine j_goto (pc' := 156) dX11_init_178 (by decide) ?_
      have kp2 : ∀ j, j < 35 + 2 * i → j ≠ 34 → up w9 34 (eR 3 8 (upr f i (35 + 2 * i))) j = w j := fun j hj h2 => by rw [up_n h2]; exact kp j hj
      have fin := ih (i + 1) (upr f i (35 + 2 * i)) (up w9 34 (eR 3 8 (upr f i (35 + 2 * i)))) (by omega) (by rw [kp2 0 (by omega) (by omega)]; exact h0) (hk.congr (fun j h1 h2 => kp2 j (by omega) (by omega))) (hc0.congr (fun j h1 h2 => kp2 j (by omega) (by omega))) (hc1.congr (fun j h1 h2 => kp2 j (by omega) (by omega))) (hc2.congr (fun j h1 h2 => kp2 j (by omega) (by omega))) up_s (fun d h1 h2 => by
        by_cases hd : d < i
        · obtain ⟨g1, g2⟩ := hsh d h1 hd
          exact ⟨by unfold upr; rw [if_neg (by omega)]; exact g1, g2.congr (fun j h1 h2 => kp2 j (by omega) (by omega))⟩
        · have hdi : d = i := by omega
          subst hdi
          exact ⟨by unfold upr sref; rw [if_pos rfl]; simp, by
            have hz : 35 + 2 * ((i : Int)).toNat = 35 + 2 * i := by omega
            rw [hz]
            exact hc9.congr (fun j h1 h2 => up_n (by omega))⟩)
      have e1 : 35 + 2 * (i + 1) = 35 + 2 * i + 2 := by omega
      have e2 : 34 + 2 * (i + 1) = 34 + 2 * i + 1 + 1 := by omega
      have e3 : 184 + 106 * (i + 1) = 184 + 106 * i + 6 + 100 := by omega
      rw [e1, e2, e3] at fin
      exact fin
  have fin := lp 8 0 (fun _ => none) (up (up w5 34 (eR 3 8 (fun _ => none))) 0 (top9 (aR 10) (aR 18) (aR 26) (aI 0) (aR 1) (aR 34) (aN) (aN))) rfl up_s (hk5.congr (fun j h1 h2 => by rw [up_n (by omega), up_n (by omega)])) (hc0.congr (fun j h1 h2 => by rw [up_n (by omega), up_n (by omega)])) (hc1.congr (fun j h1 h2 => by rw [up_n (by omega), up_n (by omega)])) (hc2.congr (fun j h1 h2 => by rw [up_n (by omega), up_n (by omega)])) (by rw [up_n (by omega)]; exact up_s) (fun d h1 h2 => absurd h2 (by omega))
  exact fin
set_option maxRecDepth 100000 in
set_option maxHeartbeats 4000000 in
theorem c_Mod_init {l : Launch} {w : AW} (hw : w 53 = eO 11 [aN, aN, aN, aN, aI 0, aI 0, aI 0, aI 0, aN, aN, aN, aI 0, aI 0, aN, aN, aN, aN, aN, aN, aI 0]) : Call l m_Mod_init true 54 67 [aR 53] w (fun r w' => r = none ∧ Mod w' D0 0 0 0 D0 0 0 sh0 sh0 ∧ ∀ j, j < 53 → w' j = w j) := by
  refine Call.of (L := [some (aR 53)]) rfl (Nat.le_of_ble_eq_true rfl) rfl (fun G ad => ?_)
  refine j_aload_n (pc' := 1) (z := 53) dX12_init_0 rfl rfl ?_
  refine j_oinit (pc' := 4) dX12_init_1 rfl s_Mod_1 rfl ?_
  refine j_aload_n (pc' := 5) (z := 53) dX12_init_4 rfl rfl ?_
  refine j_bipush (pc' := 7) (n := 48) dX12_init_5 rfl (by decide) ?_
  refine j_newaI (pc' := 9) 48 dX12_init_7 rfl (by omega) rfl (by omega) ⟨by decide, by decide⟩ ?_
  refine j_putF (pc' := 12) (v := aR 54) (fs := [aN, aN, aN, aN, aI 0, aI 0, aI 0, aI 0, aN, aN, aN, aI 0, aI 0, aN, aN, aN, aN, aN, aN, aI 0]) dX12_init_9 rfl p_Mod_9 rfl (by omega) (by rw [up_n (by omega)]; exact hw) (Nat.le_of_ble_eq_true rfl) ⟨rfl, rfl⟩ ?_
  refine j_aload_n (pc' := 13) (z := 53) dX12_init_12 rfl rfl ?_
  refine j_bipush (pc' := 15) (n := 48) dX12_init_13 rfl (by decide) ?_
  refine j_newaI (pc' := 17) 48 dX12_init_15 rfl (by omega) rfl (by omega) ⟨by decide, by decide⟩ ?_
  refine j_putF (pc' := 20) (v := aR 55) (fs := [aR 54, aN, aN, aN, aI 0, aI 0, aI 0, aI 0, aN, aN, aN, aI 0, aI 0, aN, aN, aN, aN, aN, aN, aI 0]) dX12_init_17 rfl p_Mod_13 rfl (by omega) (by rw [up_n (by omega)]; exact up_s) (Nat.le_of_ble_eq_true rfl) ⟨rfl, rfl⟩ ?_
  refine j_aload_n (pc' := 21) (z := 53) dX12_init_20 rfl rfl ?_
  refine j_bipush (pc' := 23) (n := 48) dX12_init_21 rfl (by decide) ?_
  refine j_newaI (pc' := 25) 48 dX12_init_23 rfl (by omega) rfl (by omega) ⟨by decide, by decide⟩ ?_
  refine j_putF (pc' := 28) (v := aR 56) (fs := [aR 54, aR 55, aN, aN, aI 0, aI 0, aI 0, aI 0, aN, aN, aN, aI 0, aI 0, aN, aN, aN, aN, aN, aN, aI 0]) dX12_init_25 rfl p_Mod_16 rfl (by omega) (by rw [up_n (by omega)]; exact up_s) (Nat.le_of_ble_eq_true rfl) ⟨rfl, rfl⟩ ?_
  refine j_aload_n (pc' := 29) (z := 53) dX12_init_28 rfl rfl ?_
  refine j_bipush (pc' := 31) (n := 48) dX12_init_29 rfl (by decide) ?_
  refine j_newaI (pc' := 33) 48 dX12_init_31 rfl (by omega) rfl (by omega) ⟨by decide, by decide⟩ ?_
  refine j_putF (pc' := 36) (v := aR 57) (fs := [aR 54, aR 55, aR 56, aN, aI 0, aI 0, aI 0, aI 0, aN, aN, aN, aI 0, aI 0, aN, aN, aN, aN, aN, aN, aI 0]) dX12_init_33 rfl p_Mod_19 rfl (by omega) (by rw [up_n (by omega)]; exact up_s) (Nat.le_of_ble_eq_true rfl) ⟨rfl, rfl⟩ ?_
  refine j_aload_n (pc' := 37) (z := 53) dX12_init_36 rfl rfl ?_
  refine j_iconst (pc' := 38) dX12_init_37 rfl ?_
  refine j_newaI (pc' := 40) 4 dX12_init_38 rfl (by omega) rfl (by omega) ⟨by decide, by decide⟩ ?_
  refine j_putF (pc' := 43) (v := aR 58) (fs := [aR 54, aR 55, aR 56, aR 57, aI 0, aI 0, aI 0, aI 0, aN, aN, aN, aI 0, aI 0, aN, aN, aN, aN, aN, aN, aI 0]) dX12_init_40 rfl p_Mod_22 rfl (by omega) (by rw [up_n (by omega)]; exact up_s) (Nat.le_of_ble_eq_true rfl) ⟨rfl, rfl⟩ ?_
  refine j_aload_n (pc' := 44) (z := 53) dX12_init_43 rfl rfl ?_
  refine j_sipush (pc' := 47) (n := 128) dX12_init_44 rfl (by decide) ?_
  refine j_newaI (pc' := 49) 128 dX12_init_47 rfl (by omega) rfl (by omega) ⟨by decide, by decide⟩ ?_
  refine j_putF (pc' := 52) (v := aR 59) (fs := [aR 54, aR 55, aR 56, aR 57, aI 0, aI 0, aI 0, aI 0, aR 58, aN, aN, aI 0, aI 0, aN, aN, aN, aN, aN, aN, aI 0]) dX12_init_49 rfl p_Mod_25 rfl (by omega) (by rw [up_n (by omega)]; exact up_s) (Nat.le_of_ble_eq_true rfl) ⟨rfl, rfl⟩ ?_
  refine j_aload_n (pc' := 53) (z := 53) dX12_init_52 rfl rfl ?_
  refine j_bipush (pc' := 55) (n := 80) dX12_init_53 rfl (by decide) ?_
  refine j_newaI (pc' := 57) 80 dX12_init_55 rfl (by omega) rfl (by omega) ⟨by decide, by decide⟩ ?_
  refine j_putF (pc' := 60) (v := aR 60) (fs := [aR 54, aR 55, aR 56, aR 57, aI 0, aI 0, aI 0, aI 0, aR 58, aR 59, aN, aI 0, aI 0, aN, aN, aN, aN, aN, aN, aI 0]) dX12_init_57 rfl p_Mod_28 rfl (by omega) (by rw [up_n (by omega)]; exact up_s) (Nat.le_of_ble_eq_true rfl) ⟨rfl, rfl⟩ ?_
  refine j_aload_n (pc' := 61) (z := 53) dX12_init_60 rfl rfl ?_
  refine j_bipush (pc' := 63) (n := 8) dX12_init_61 rfl (by decide) ?_
  refine j_newaI (pc' := 65) 8 dX12_init_63 rfl (by omega) rfl (by omega) ⟨by decide, by decide⟩ ?_
  refine j_putF (pc' := 68) (v := aR 61) (fs := [aR 54, aR 55, aR 56, aR 57, aI 0, aI 0, aI 0, aI 0, aR 58, aR 59, aR 60, aI 0, aI 0, aN, aN, aN, aN, aN, aN, aI 0]) dX12_init_65 rfl p_Mod_31 rfl (by omega) (by rw [up_n (by omega)]; exact up_s) (Nat.le_of_ble_eq_true rfl) ⟨rfl, rfl⟩ ?_
  refine j_aload_n (pc' := 69) (z := 53) dX12_init_68 rfl rfl ?_
  refine j_bipush (pc' := 71) (n := 8) dX12_init_69 rfl (by decide) ?_
  refine j_newaI (pc' := 73) 8 dX12_init_71 rfl (by omega) rfl (by omega) ⟨by decide, by decide⟩ ?_
  refine j_putF (pc' := 76) (v := aR 62) (fs := [aR 54, aR 55, aR 56, aR 57, aI 0, aI 0, aI 0, aI 0, aR 58, aR 59, aR 60, aI 0, aI 0, aR 61, aN, aN, aN, aN, aN, aI 0]) dX12_init_73 rfl p_Mod_34 rfl (by omega) (by rw [up_n (by omega)]; exact up_s) (Nat.le_of_ble_eq_true rfl) ⟨rfl, rfl⟩ ?_
  refine j_aload_n (pc' := 77) (z := 53) dX12_init_76 rfl rfl ?_
  refine j_bipush (pc' := 79) (n := 8) dX12_init_77 rfl (by decide) ?_
  refine j_newaI (pc' := 81) 8 dX12_init_79 rfl (by omega) rfl (by omega) ⟨by decide, by decide⟩ ?_
  refine j_putF (pc' := 84) (v := aR 63) (fs := [aR 54, aR 55, aR 56, aR 57, aI 0, aI 0, aI 0, aI 0, aR 58, aR 59, aR 60, aI 0, aI 0, aR 61, aR 62, aN, aN, aN, aN, aI 0]) dX12_init_81 rfl p_Mod_37 rfl (by omega) (by rw [up_n (by omega)]; exact up_s) (Nat.le_of_ble_eq_true rfl) ⟨rfl, rfl⟩ ?_
  refine j_aload_n (pc' := 85) (z := 53) dX12_init_84 rfl rfl ?_
  refine j_bipush (pc' := 87) (n := 8) dX12_init_85 rfl (by decide) ?_
  refine j_newaI (pc' := 89) 8 dX12_init_87 rfl (by omega) rfl (by omega) ⟨by decide, by decide⟩ ?_
  refine j_putF (pc' := 92) (v := aR 64) (fs := [aR 54, aR 55, aR 56, aR 57, aI 0, aI 0, aI 0, aI 0, aR 58, aR 59, aR 60, aI 0, aI 0, aR 61, aR 62, aR 63, aN, aN, aN, aI 0]) dX12_init_89 rfl p_Mod_40 rfl (by omega) (by rw [up_n (by omega)]; exact up_s) (Nat.le_of_ble_eq_true rfl) ⟨rfl, rfl⟩ ?_
  refine j_aload_n (pc' := 93) (z := 53) dX12_init_92 rfl rfl ?_
  refine j_bipush (pc' := 95) (n := 8) dX12_init_93 rfl (by decide) ?_
  refine j_newaI (pc' := 97) 8 dX12_init_95 rfl (by omega) rfl (by omega) ⟨by decide, by decide⟩ ?_
  refine j_putF (pc' := 100) (v := aR 65) (fs := [aR 54, aR 55, aR 56, aR 57, aI 0, aI 0, aI 0, aI 0, aR 58, aR 59, aR 60, aI 0, aI 0, aR 61, aR 62, aR 63, aR 64, aN, aN, aI 0]) dX12_init_97 rfl p_Mod_43 rfl (by omega) (by rw [up_n (by omega)]; exact up_s) (Nat.le_of_ble_eq_true rfl) ⟨rfl, rfl⟩ ?_
  refine j_aload_n (pc' := 101) (z := 53) dX12_init_100 rfl rfl ?_
  refine j_sipush (pc' := 104) (n := 800) dX12_init_101 rfl (by decide) ?_
  refine j_newaI (pc' := 106) 800 dX12_init_104 rfl (by omega) rfl (by omega) ⟨by decide, by decide⟩ ?_
  refine j_putF (pc' := 109) (v := aR 66) (fs := [aR 54, aR 55, aR 56, aR 57, aI 0, aI 0, aI 0, aI 0, aR 58, aR 59, aR 60, aI 0, aI 0, aR 61, aR 62, aR 63, aR 64, aR 65, aN, aI 0]) dX12_init_106 rfl p_Mod_46 rfl (by omega) (by rw [up_n (by omega)]; exact up_s) (Nat.le_of_ble_eq_true rfl) ⟨rfl, rfl⟩ ?_
  refine j_aload_n (pc' := 110) (z := 53) dX12_init_109 rfl rfl ?_
  refine j_get (pc' := 113) (v := aR 54) (fs := [aR 54, aR 55, aR 56, aR 57, aI 0, aI 0, aI 0, aI 0, aR 58, aR 59, aR 60, aI 0, aI 0, aR 61, aR 62, aR 63, aR 64, aR 65, aR 66, aI 0]) dX12_init_110 rfl f_Mod_9 (by omega) up_s rfl ?_
  refine j_iconst (pc' := 114) dX12_init_113 rfl ?_
  refine j_bipush (pc' := 116) (n := 50) dX12_init_114 rfl (by decide) ?_
  refine j_iast (pc' := 117) (n := 48) (f := fun _ => 0) dX12_init_116 rfl (by omega) (by repeat (first | exact up_s | rw [up_n (by omega)])) (by omega) (by decide) ?_
  refine j_aload_n (pc' := 118) (z := 53) dX12_init_117 rfl rfl ?_
  refine j_get (pc' := 121) (v := aR 54) (fs := [aR 54, aR 55, aR 56, aR 57, aI 0, aI 0, aI 0, aI 0, aR 58, aR 59, aR 60, aI 0, aI 0, aR 61, aR 62, aR 63, aR 64, aR 65, aR 66, aI 0]) dX12_init_118 rfl f_Mod_9 (by omega) (by rw [up_n (by omega)]; exact up_s) rfl ?_
  refine j_iconst (pc' := 122) dX12_init_121 rfl ?_
  refine j_iconst (pc' := 123) dX12_init_122 rfl ?_
  refine j_iast (pc' := 124) (n := 48) dX12_init_123 rfl (by omega) up_s (by omega) (by decide) ?_
  refine j_vret dX12_init_124 rfl ⟨rfl, ⟨⟨0, 0, 0, 0, 0, 0, (by repeat (first | exact up_s | rw [up_n (by omega)]))⟩, ⟨_, up_s, ?_⟩, ⟨fun _ => 0, (by repeat (first | exact up_s | rw [up_n (by omega)]))⟩, ⟨fun _ => 0, (by repeat (first | exact up_s | rw [up_n (by omega)])), fun h => by omega⟩, ⟨fun _ => 0, (by repeat (first | exact up_s | rw [up_n (by omega)]))⟩, ⟨fun _ => 0, (by repeat (first | exact up_s | rw [up_n (by omega)]))⟩, ⟨fun _ => 0, (by repeat (first | exact up_s | rw [up_n (by omega)]))⟩, ⟨fun _ => 0, (by repeat (first | exact up_s | rw [up_n (by omega)]))⟩, fun _ => 0, fun _ => 0, fun _ => 0, fun _ => 0, fun _ => 0, fun _ => 0, ⟨(by repeat (first | exact up_s | rw [up_n (by omega)])), (by repeat (first | exact up_s | rw [up_n (by omega)])), (by repeat (first | exact up_s | rw [up_n (by omega)])), (by repeat (first | exact up_s | rw [up_n (by omega)])), (by repeat (first | exact up_s | rw [up_n (by omega)])), (by repeat (first | exact up_s | rw [up_n (by omega)]))⟩, ?_⟩, fun j hj => ?_⟩
  · refine ⟨rfl, rfl, fun k hk => ?_, fun p hp => absurd hp.2 (by omega)⟩
    rcases (show k = 0 ∨ k = 1 ∨ k = 2 ∨ k = 3 by omega) with rfl | rfl | rfl | rfl <;> simp [upi, D0]
  · intro d hd
    exact ⟨rfl, fun h => by simp [sh0] at h, fun h => by simp [sh0] at h⟩
  · repeat (rw [up_n (by omega)])
