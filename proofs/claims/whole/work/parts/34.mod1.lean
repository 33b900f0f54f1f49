set_option maxRecDepth 100000 in
set_option maxHeartbeats 4000000 in
theorem c_Mod_isIn {l : Launch} {w : AW} {v a b : Int} (hv : inI v) (ha : inI a) (hb : inI b) : Call l m_Mod_isIn false 68 68 [aI v, aI a, aI b] w (rt (some (aB (a ≤ v ∧ v ≤ b))) w) := by
  refine Call.of (L := [some (aI v), some (aI a), some (aI b)]) rfl (Nat.le_of_ble_eq_true rfl) rfl (fun G ad => ?_)
  refine j_iload_n (pc' := 1) (z := v) dX12_isIn_0 rfl rfl ?_
  refine j_iload_n (pc' := 2) (z := a) dX12_isIn_1 rfl rfl ?_
  refine j_icmp_lt (tgt := 14) (pc' := 5) dX12_isIn_2 (by decide) rfl (by omega) (by omega) (fun h2 => ?_) (fun h2 => ?_)
  · refine j_iconst (pc' := 15) dX12_isIn_14 rfl ?_
    exact j_zret0 dX12_isIn_15 rfl (rt_b0 (by omega))
  · refine j_iload_n (pc' := 6) (z := v) dX12_isIn_5 rfl rfl ?_
    refine j_iload_n (pc' := 7) (z := b) dX12_isIn_6 rfl rfl ?_
    refine j_icmp_gt (tgt := 14) (pc' := 10) dX12_isIn_7 (by decide) rfl (by omega) (by omega) (fun h7 => ?_) (fun h7 => ?_)
    · refine j_iconst (pc' := 15) dX12_isIn_14 rfl ?_
      exact j_zret0 dX12_isIn_15 rfl (rt_b0 (by omega))
    · refine j_iconst (pc' := 11) dX12_isIn_10 rfl ?_
      refine j_goto (pc' := 15) dX12_isIn_11 (by decide) ?_
      exact j_zret1 dX12_isIn_15 rfl (rt_b1 (by omega))
set_option maxRecDepth 100000 in
set_option maxHeartbeats 4000000 in
theorem c_Mod_size {l : Launch} {w : AW} {v : Int} (hv : inI v) : Call l m_Mod_size false 68 68 [aI v] w (rt (some (aI (iab v))) w) := by
  refine Call.of (L := [some (aI v)]) rfl (Nat.le_of_ble_eq_true rfl) rfl (fun G ad => ?_)
  refine j_iload_n (pc' := 1) (z := v) dX12_size_0 rfl rfl ?_
  refine j_if_ge (tgt := 9) (pc' := 4) dX12_size_1 (by decide) rfl (by omega) (fun h1 => ?_) (fun h1 => ?_)
  · refine j_iload_n (pc' := 10) (z := v) dX12_size_9 rfl rfl ?_
    exact j_iret dX12_size_10 rfl (rt_eq (by unfold iab; split <;> omega))
  · refine j_iload_n (pc' := 5) (z := v) dX12_size_4 rfl rfl ?_
    refine j_ineg (pc' := 6) dX12_size_5 rfl ?_
    refine j_goto (pc' := 10) dX12_size_6 (by decide) ?_
    exact j_iret dX12_size_10 rfl (rt_eq (by unfold iab; split <;> omega))
set_option maxRecDepth 100000 in
set_option maxHeartbeats 4000000 in
theorem c_Mod_most {l : Launch} {w : AW} {a b : Int} (ha : inI a) (hb : inI b) : Call l m_Mod_most false 68 68 [aI a, aI b] w (rt (some (aI (max a b))) w) := by
  refine Call.of (L := [some (aI a), some (aI b)]) rfl (Nat.le_of_ble_eq_true rfl) rfl (fun G ad => ?_)
  refine j_iload_n (pc' := 1) (z := a) dX12_most_0 rfl rfl ?_
  refine j_iload_n (pc' := 2) (z := b) dX12_most_1 rfl rfl ?_
  refine j_icmp_le (tgt := 9) (pc' := 5) dX12_most_2 (by decide) rfl (by omega) (by omega) (fun h2 => ?_) (fun h2 => ?_)
  · refine j_iload_n (pc' := 10) (z := b) dX12_most_9 rfl rfl ?_
    exact j_iret dX12_most_10 rfl (rt_eq (by omega))
  · refine j_iload_n (pc' := 6) (z := a) dX12_most_5 rfl rfl ?_
    refine j_goto (pc' := 10) dX12_most_6 (by decide) ?_
    exact j_iret dX12_most_10 rfl (rt_eq (by omega))
set_option maxRecDepth 100000 in
set_option maxHeartbeats 4000000 in
theorem c_Mod_at {l : Launch} {w : AW} {p k : Int}  : Call l m_Mod_at false 68 68 [aI p, aI k] w (rt (some (aI (6 + 6 * p + k))) w) := by
  refine Call.of (L := [some (aI p), some (aI k)]) rfl (Nat.le_of_ble_eq_true rfl) rfl (fun G ad => ?_)
  refine j_bipush (pc' := 2) dX12_at_0 rfl (by decide) ?_
  refine j_bipush (pc' := 4) dX12_at_2 rfl (by decide) ?_
  refine j_iload_n (pc' := 5) (z := p) dX12_at_4 rfl rfl ?_
  refine j_imul (pc' := 6) dX12_at_5 rfl ?_
  refine j_iadd (pc' := 7) dX12_at_6 rfl ?_
  refine j_iload_n (pc' := 8) (z := k) dX12_at_7 rfl rfl ?_
  refine j_iadd (pc' := 9) dX12_at_8 rfl ?_
  exact j_iret dX12_at_9 rfl (rt_eq (by omega))
set_option maxRecDepth 100000 in
set_option maxHeartbeats 4000000 in
theorem c_Mod_isShelf {l : Launch} {w : AW} {v : Int} (hv : inI v) : Call l m_Mod_isShelf false 68 68 [aI v] w (rt (some (aB (0 ≤ v ∧ v ≤ 7))) w) := by
  refine Call.of (L := [some (aI v)]) rfl (Nat.le_of_ble_eq_true rfl) rfl (fun G ad => ?_)
  refine j_iload_n (pc' := 1) (z := v) dX12_isShelf_0 rfl rfl ?_
  refine j_iconst (pc' := 2) dX12_isShelf_1 rfl ?_
  refine j_bipush (pc' := 4) dX12_isShelf_2 rfl (by decide) ?_
  refine j_callS (pc' := 7) (as := [aI v, aI 0, aI 7]) (rest := []) dX12_isShelf_4 rfl s_Mod_49 (c_Mod_isIn (by omega) (by omega) (by omega)) rfl rfl rfl (jdet (st' := [aB (0 ≤ v ∧ v ≤ 7)]) rfl ?_)
  exact j_zret dX12_isShelf_7 rfl (rt_bb (by omega))
set_option maxRecDepth 100000 in
set_option maxHeartbeats 4000000 in
theorem c_Mod_isSeat {l : Launch} {w : AW} {v : Int} (hv : inI v) : Call l m_Mod_isSeat false 68 68 [aI v] w (rt (some (aB (0 ≤ v ∧ v ≤ 3))) w) := by
  refine Call.of (L := [some (aI v)]) rfl (Nat.le_of_ble_eq_true rfl) rfl (fun G ad => ?_)
  refine j_iload_n (pc' := 1) (z := v) dX12_isSeat_0 rfl rfl ?_
  refine j_iconst (pc' := 2) dX12_isSeat_1 rfl ?_
  refine j_iconst (pc' := 3) dX12_isSeat_2 rfl ?_
  refine j_callS (pc' := 6) (as := [aI v, aI 0, aI 3]) (rest := []) dX12_isSeat_3 rfl s_Mod_49 (c_Mod_isIn (by omega) (by omega) (by omega)) rfl rfl rfl (jdet (st' := [aB (0 ≤ v ∧ v ≤ 3)]) rfl ?_)
  exact j_zret dX12_isSeat_6 rfl (rt_bb (by omega))
set_option maxRecDepth 100000 in
set_option maxHeartbeats 4000000 in
theorem c_Mod_lays {l : Launch} {w : AW} {a b : Nat} {f g : Int → Int} (ha : w a = eI 48 f) (hb : w b = eI 48 g) (haq : a < 68) (hbq : b < 68) (hab : a ≠ b) : Call l m_Mod_lays false 68 68 [aR a, aR b] w (rt none (up w b (eI 48 f))) := by
  refine Call.of (L := [some (aR a), some (aR b), none]) rfl (Nat.le_of_ble_eq_true rfl) rfl (fun G ad => ?_)
  refine j_iconst (pc' := 1) dX12_lays_0 rfl ?_
  refine j_istore_n (pc' := 2) (L' := [some (aR a), some (aR b), some (aI 0)]) dX12_lays_1 rfl (by decide) rfl ?_
  have lp2 : ∀ (k9 : Nat) (i : Int), (0 ≤ i ∧ i ≤ 48) → ((48 - i).toNat) = k9 → J l m_Mod_lays ad G [] false (jZ ad G false 68 m_Mod_lays.2.2.2.2.cells m_Mod_lays.2.2.2.2.slots (rt none (up w b (eI 48 f)))) 68 0 0 2 [some (aR a), some (aR b), some (aI i)] [] (up w b (eI 48 (cpyI f g 0 0 i))) := by
    intro k9
    induction k9 using Nat.strongRecOn with
    | _ k9 ih2 =>
      intro i hi9 hk2
      refine j_iload_n (pc' := 3) (z := i) dX12_lays_2 rfl rfl ?_
      refine j_bipush (pc' := 5) dX12_lays_3 rfl (by decide) ?_
      refine j_icmp_ge (tgt := 20) (pc' := 8) dX12_lays_5 (by decide) rfl (by omega) (by omega) (fun h5 => ?_) (fun h5 => ?_)
      · refine j_ext (q := b) (n := 48) (g := f) (by omega) up_s (fun i9 g1 g2 => by unfold cpyI; rw [if_pos (by omega)]; congr 1; omega) ?_
        exact j_vret dX12_lays_20 rfl (rt_w (by funext j9; simp only [up]; (repeat' split) <;> rfl))
      · refine j_aload_n (pc' := 9) (z := b) dX12_lays_8 rfl rfl ?_
        refine j_iload_n (pc' := 10) (z := i) dX12_lays_9 rfl rfl ?_
        refine j_aload_n (pc' := 11) (z := a) dX12_lays_10 rfl rfl ?_
        refine j_iload_n (pc' := 12) (z := i) dX12_lays_11 rfl rfl ?_
        refine j_iald (pc' := 13) dX12_lays_12 rfl (by omega) ((up_n (by omega)).trans ha) (by omega) (by decide) ?_
        refine j_iast (pc' := 14) dX12_lays_13 rfl (by omega) up_s (by omega) (by decide) ?_
        refine j_w (w' := up w b (eI 48 (upi (cpyI f g 0 0 i) i (f i)))) (by funext j9; simp only [up]; (repeat' split) <;> first | rfl | (exfalso; omega)) ?_
        refine j_iinc (pc' := 17) (z := i) (L' := [some (aR a), some (aR b), some (aI (i + 1))]) dX12_lays_14 rfl (by decide) rfl rfl rfl ?_
        refine j_goto (pc' := 2) dX12_lays_17 (by decide) ?_
        refine j_w (w' := up w b (eI 48 (cpyI f g 0 0 (i + 1)))) (by first | (funext j9; simp only [up]; (repeat' split) <;> first | (subst_vars; rw [hb]; congr 2; funext j8; unfold cpyI; rw [if_neg (by omega)]) | rfl) | (congr 2; funext j8; unfold upi cpyI; (repeat' split) <;> first | rfl | (exfalso; omega) | (congr 1; omega))) ?_
        exact ih2 _ (by omega) (i + 1) (by omega) rfl
  refine j_w (w' := up w b (eI 48 (cpyI f g 0 0 0))) (by first | (funext j9; simp only [up]; (repeat' split) <;> first | (subst_vars; rw [hb]; congr 2; funext j8; unfold cpyI; rw [if_neg (by omega)]) | rfl) | (congr 2; funext j8; unfold upi cpyI; (repeat' split) <;> first | rfl | (exfalso; omega) | (congr 1; omega))) ?_
  exact lp2 _ 0 (by omega) rfl
set_option maxRecDepth 100000 in
set_option maxHeartbeats 4000000 in
theorem c_Mod_loudOf {l : Launch} {w : AW} {q : Nat} {S : Int → Int} {D : Int → Int → Int} {n mi : Int} {p pace : Int} (hr : w q = eI 48 S) (hq : q < 68) (hR : Rw S D n mi) (hB : CarOK D n mi) (hp : 0 ≤ p ∧ p < n) (hpa : 0 ≤ pace ∧ pace ≤ 1000) : Call l m_Mod_loudOf false 68 68 [aR q, aI p, aI pace] w (rt (some (aI (lds D p pace))) w) := by
  obtain ⟨hn, hD, hs0, hs1, hs2, hs3⟩ := id hB
  have hDp := hD p (by omega) (by omega)
  have hlds : lds D p pace = loud (D 0 p) (D 1 p) pace (D 6 1) (D 6 2) := rfl
  refine Call.of (L := [some (aR q), some (aI p), some (aI pace), none, none, none, none]) rfl (Nat.le_of_ble_eq_true rfl) rfl (fun G ad => ?_)
  refine j_aload_n (pc' := 1) (z := q) dX12_loudOf_0 rfl rfl ?_
  refine j_iload_n (pc' := 2) (z := p) dX12_loudOf_1 rfl rfl ?_
  refine j_iconst (pc' := 3) dX12_loudOf_2 rfl ?_
  refine j_callS (pc' := 6) (as := [aI p, aI 1]) (rest := [aR q]) dX12_loudOf_3 rfl s_Mod_53 c_Mod_at rfl rfl rfl (jdet (st' := [aI (6 + 6 * p + 1), aR q]) rfl ?_)
  refine j_iald (pc' := 7) dX12_loudOf_6 rfl (by omega) hr (by omega) (by decide) ?_
  refine j_top (b := D 1 p) (hR.pj (j := 1) (p := p) (by omega) (by omega)) ?_
  refine j_istore_n (pc' := 8) (L' := [some (aR q), some (aI p), some (aI pace), some (aI (D 1 p)), none, none, none]) dX12_loudOf_7 rfl (by decide) rfl ?_
  refine j_iload_n (pc' := 9) (z := pace) dX12_loudOf_8 rfl rfl ?_
  refine j_bipush (pc' := 11) dX12_loudOf_9 rfl (by decide) ?_
  refine j_bipush (pc' := 13) dX12_loudOf_11 rfl (by decide) ?_
  refine j_callS (pc' := 16) (as := [aI pace, aI 48, aI 53]) (rest := []) dX12_loudOf_13 rfl s_Mod_49 (c_Mod_isIn (by omega) (by omega) (by omega)) rfl rfl rfl (jdet (st' := [aB (48 ≤ pace ∧ pace ≤ 53)]) rfl ?_)
  refine j_ifb_eq (tgt := 23) (pc' := 19) dX12_loudOf_16 (by decide) rfl (fun h16 => ?_) (fun h16 => ?_)
  · refine j_iconst (pc' := 24) dX12_loudOf_23 rfl ?_
    refine j_istore (pc' := 26) (L' := [some (aR q), some (aI p), some (aI pace), some (aI (D 1 p)), some (aI 0), none, none]) dX12_loudOf_24 rfl (by decide) rfl ?_
    refine j_iload_n (pc' := 27) (z := pace) dX12_loudOf_26 rfl rfl ?_
    refine j_bipush (pc' := 29) dX12_loudOf_27 rfl (by decide) ?_
    refine j_icmp_lt (tgt := 36) (pc' := 32) dX12_loudOf_29 (by decide) rfl (by omega) (by omega) (fun h29 => ?_) (fun h29 => ?_)
    · refine j_iconst (pc' := 37) dX12_loudOf_36 rfl ?_
      refine j_istore (pc' := 39) (L' := [some (aR q), some (aI p), some (aI pace), some (aI (D 1 p)), some (aI 0), some (aI 0), none]) dX12_loudOf_37 rfl (by decide) rfl ?_
      refine j_iconst (pc' := 40) dX12_loudOf_39 rfl ?_
      refine j_iload (pc' := 42) (z := 0) dX12_loudOf_40 rfl rfl ?_
      refine j_aload_n (pc' := 43) (z := q) dX12_loudOf_42 rfl rfl ?_
      refine j_iconst (pc' := 44) dX12_loudOf_43 rfl ?_
      refine j_iald (pc' := 45) dX12_loudOf_44 rfl (by omega) hr (by omega) (by decide) ?_
      refine j_top (b := D 6 2) hR.s2 ?_
      refine j_isub (pc' := 46) dX12_loudOf_45 rfl ?_
      refine j_callS (pc' := 49) (as := [aI 0, aI (0 - (D 6 2))]) (rest := []) dX12_loudOf_46 rfl s_Mod_57 (c_Mod_most (by omega) (by omega)) rfl rfl rfl (jdet (st' := [aI (max 0 (0 - (D 6 2)))]) rfl ?_)
      refine j_istore (pc' := 51) (L' := [some (aR q), some (aI p), some (aI pace), some (aI (D 1 p)), some (aI 0), some (aI 0), some (aI (max 0 (0 - (D 6 2))))]) dX12_loudOf_49 rfl (by decide) rfl ?_
      refine j_aload_n (pc' := 52) (z := q) dX12_loudOf_51 rfl rfl ?_
      refine j_iload_n (pc' := 53) (z := p) dX12_loudOf_52 rfl rfl ?_
      refine j_iconst (pc' := 54) dX12_loudOf_53 rfl ?_
      refine j_callS (pc' := 57) (as := [aI p, aI 0]) (rest := [aR q]) dX12_loudOf_54 rfl s_Mod_53 c_Mod_at rfl rfl rfl (jdet (st' := [aI (6 + 6 * p + 0), aR q]) rfl ?_)
      refine j_iald (pc' := 58) dX12_loudOf_57 rfl (by omega) hr (by omega) (by decide) ?_
      refine j_top (b := D 0 p) (hR.pj (j := 0) (p := p) (by omega) (by omega)) ?_
      have hx58 : -2147483648 ≤ D 0 p ∧ D 0 p ≤ 2147483647 := (by omega)
      rcases (show D 0 p = 1 ∨ D 0 p = 2 ∨ D 0 p = 3 ∨ D 0 p = 4 ∨ D 0 p = 5 ∨ D 0 p = 6 ∨ D 0 p = 7 ∨ (D 0 p < 1 ∨ 7 < D 0 p) by omega) with h58 | h58 | h58 | h58 | h58 | h58 | h58 | h58
      · refine j_tsw (tgt := 100) dX12_loudOf_58 hx58 (by omega) (by rw [h58]; rfl) (by decide) ?_
        refine j_iload (pc' := 102) (z := 0) dX12_loudOf_100 rfl rfl ?_
        exact j_iret dX12_loudOf_102 rfl (rt_eq (by rw [hlds]; unfold loud pl lo; (repeat' split) <;> first | rfl | omega))
      · refine j_tsw (tgt := 103) dX12_loudOf_58 hx58 (by omega) (by rw [h58]; rfl) (by decide) ?_
        refine j_iconst (pc' := 104) dX12_loudOf_103 rfl ?_
        refine j_iload (pc' := 106) (z := 0) dX12_loudOf_104 rfl rfl ?_
        refine j_imul (pc' := 107) dX12_loudOf_106 rfl ?_
        exact j_iret dX12_loudOf_107 rfl (rt_eq (by rw [hlds]; unfold loud pl lo; (repeat' split) <;> first | rfl | omega))
      · refine j_tsw (tgt := 108) dX12_loudOf_58 hx58 (by omega) (by rw [h58]; rfl) (by decide) ?_
        refine j_aload_n (pc' := 109) (z := q) dX12_loudOf_108 rfl rfl ?_
        refine j_iconst (pc' := 110) dX12_loudOf_109 rfl ?_
        refine j_iald (pc' := 111) dX12_loudOf_110 rfl (by omega) hr (by omega) (by decide) ?_
        refine j_top (b := D 6 1) hR.s1 ?_
        refine j_iconst (pc' := 112) dX12_loudOf_111 rfl ?_
        refine j_icmp_lt (tgt := 120) (pc' := 115) dX12_loudOf_112 (by decide) rfl (by omega) (by omega) (fun h112 => ?_) (fun h112 => ?_)
        · refine j_iconst (pc' := 121) dX12_loudOf_120 rfl ?_
          exact j_iret dX12_loudOf_121 rfl (rt_eq (by rw [hlds]; unfold loud pl lo; (repeat' split) <;> first | rfl | omega))
        · refine j_iload (pc' := 117) (z := 0) dX12_loudOf_115 rfl rfl ?_
          refine j_goto (pc' := 121) dX12_loudOf_117 (by decide) ?_
          exact j_iret dX12_loudOf_121 rfl (rt_eq (by rw [hlds]; unfold loud pl lo; (repeat' split) <;> first | rfl | omega))
      · refine j_tsw (tgt := 122) dX12_loudOf_58 hx58 (by omega) (by rw [h58]; rfl) (by decide) ?_
        refine j_iload (pc' := 124) (z := (max 0 (0 - (D 6 2)))) dX12_loudOf_122 rfl rfl ?_
        exact j_iret dX12_loudOf_124 rfl (rt_eq (by rw [hlds]; unfold loud pl lo; (repeat' split) <;> first | rfl | omega))
      · refine j_tsw (tgt := 125) dX12_loudOf_58 hx58 (by omega) (by rw [h58]; rfl) (by decide) ?_
        refine j_iload (pc' := 127) (z := 0) dX12_loudOf_125 rfl rfl ?_
        refine j_if_le (tgt := 145) (pc' := 130) dX12_loudOf_127 (by decide) rfl (by omega) (fun h127 => ?_) (fun h127 => ?_)
        · refine j_iconst (pc' := 146) dX12_loudOf_145 rfl ?_
          refine j_iload (pc' := 148) (z := 0) dX12_loudOf_146 rfl rfl ?_
          refine j_imul (pc' := 149) dX12_loudOf_148 rfl ?_
          exact j_iret dX12_loudOf_149 rfl (rt_eq (by rw [hlds]; unfold loud pl lo; (repeat' split) <;> first | rfl | omega))
        · refine j_iload_n (pc' := 131) (z := pace) dX12_loudOf_130 rfl rfl ?_
          refine j_iconst (pc' := 132) dX12_loudOf_131 rfl ?_
          refine j_irem (pc' := 133) dX12_loudOf_132 rfl (by omega) (by omega) ?_
          refine j_if_ne (tgt := 145) (pc' := 136) dX12_loudOf_133 (by decide) rfl (by omega) (fun h133 => ?_) (fun h133 => ?_)
          · refine j_iconst (pc' := 146) dX12_loudOf_145 rfl ?_
            refine j_iload (pc' := 148) (z := 0) dX12_loudOf_146 rfl rfl ?_
            refine j_imul (pc' := 149) dX12_loudOf_148 rfl ?_
            exact j_iret dX12_loudOf_149 rfl (rt_eq (by rw [hlds]; unfold loud pl lo; (repeat' split) <;> first | rfl | omega))
          · refine j_iconst (pc' := 137) dX12_loudOf_136 rfl ?_
            refine j_iload (pc' := 139) (z := 0) dX12_loudOf_137 rfl rfl ?_
            refine j_imul (pc' := 140) dX12_loudOf_139 rfl ?_
            refine j_iconst (pc' := 141) dX12_loudOf_140 rfl ?_
            refine j_iadd (pc' := 142) dX12_loudOf_141 rfl ?_
            refine j_goto (pc' := 149) dX12_loudOf_142 (by decide) ?_
            exact j_iret dX12_loudOf_149 rfl (rt_eq (by rw [hlds]; unfold loud pl lo; (repeat' split) <;> first | rfl | omega))
      · refine j_tsw (tgt := 150) dX12_loudOf_58 hx58 (by omega) (by rw [h58]; rfl) (by decide) ?_
        refine j_iconst (pc' := 151) dX12_loudOf_150 rfl ?_
        exact j_iret dX12_loudOf_151 rfl (rt_eq (by rw [hlds]; unfold loud pl lo; (repeat' split) <;> first | rfl | omega))
      · refine j_tsw (tgt := 152) dX12_loudOf_58 hx58 (by omega) (by rw [h58]; rfl) (by decide) ?_
        refine j_iconst (pc' := 153) dX12_loudOf_152 rfl ?_
        refine j_iload (pc' := 155) (z := (max 0 (0 - (D 6 2)))) dX12_loudOf_153 rfl rfl ?_
        refine j_imul (pc' := 156) dX12_loudOf_155 rfl ?_
        exact j_iret dX12_loudOf_156 rfl (rt_eq (by rw [hlds]; unfold loud pl lo; (repeat' split) <;> first | rfl | omega))
      · refine j_tswd (tgt := 157) dX12_loudOf_58 hx58 h58 (by decide) ?_
        refine j_iload (pc' := 159) (z := 0) dX12_loudOf_157 rfl rfl ?_
        exact j_iret dX12_loudOf_159 rfl (rt_eq (by rw [hlds]; unfold loud pl lo; (repeat' split) <;> first | rfl | omega))
    · refine j_iload_n (pc' := 33) (z := (D 1 p)) dX12_loudOf_32 rfl rfl ?_
      refine j_goto (pc' := 37) dX12_loudOf_33 (by decide) ?_
      refine j_istore (pc' := 39) (L' := [some (aR q), some (aI p), some (aI pace), some (aI (D 1 p)), some (aI 0), some (aI (D 1 p)), none]) dX12_loudOf_37 rfl (by decide) rfl ?_
      refine j_iconst (pc' := 40) dX12_loudOf_39 rfl ?_
      refine j_iload (pc' := 42) (z := 0) dX12_loudOf_40 rfl rfl ?_
      refine j_aload_n (pc' := 43) (z := q) dX12_loudOf_42 rfl rfl ?_
      refine j_iconst (pc' := 44) dX12_loudOf_43 rfl ?_
      refine j_iald (pc' := 45) dX12_loudOf_44 rfl (by omega) hr (by omega) (by decide) ?_
      refine j_top (b := D 6 2) hR.s2 ?_
      refine j_isub (pc' := 46) dX12_loudOf_45 rfl ?_
      refine j_callS (pc' := 49) (as := [aI 0, aI (0 - (D 6 2))]) (rest := []) dX12_loudOf_46 rfl s_Mod_57 (c_Mod_most (by omega) (by omega)) rfl rfl rfl (jdet (st' := [aI (max 0 (0 - (D 6 2)))]) rfl ?_)
      refine j_istore (pc' := 51) (L' := [some (aR q), some (aI p), some (aI pace), some (aI (D 1 p)), some (aI 0), some (aI (D 1 p)), some (aI (max 0 (0 - (D 6 2))))]) dX12_loudOf_49 rfl (by decide) rfl ?_
      refine j_aload_n (pc' := 52) (z := q) dX12_loudOf_51 rfl rfl ?_
      refine j_iload_n (pc' := 53) (z := p) dX12_loudOf_52 rfl rfl ?_
      refine j_iconst (pc' := 54) dX12_loudOf_53 rfl ?_
      refine j_callS (pc' := 57) (as := [aI p, aI 0]) (rest := [aR q]) dX12_loudOf_54 rfl s_Mod_53 c_Mod_at rfl rfl rfl (jdet (st' := [aI (6 + 6 * p + 0), aR q]) rfl ?_)
      refine j_iald (pc' := 58) dX12_loudOf_57 rfl (by omega) hr (by omega) (by decide) ?_
      refine j_top (b := D 0 p) (hR.pj (j := 0) (p := p) (by omega) (by omega)) ?_
      have hx58 : -2147483648 ≤ D 0 p ∧ D 0 p ≤ 2147483647 := (by omega)
      rcases (show D 0 p = 1 ∨ D 0 p = 2 ∨ D 0 p = 3 ∨ D 0 p = 4 ∨ D 0 p = 5 ∨ D 0 p = 6 ∨ D 0 p = 7 ∨ (D 0 p < 1 ∨ 7 < D 0 p) by omega) with h58 | h58 | h58 | h58 | h58 | h58 | h58 | h58
      · refine j_tsw (tgt := 100) dX12_loudOf_58 hx58 (by omega) (by rw [h58]; rfl) (by decide) ?_
        refine j_iload (pc' := 102) (z := (D 1 p)) dX12_loudOf_100 rfl rfl ?_
        exact j_iret dX12_loudOf_102 rfl (rt_eq (by rw [hlds]; unfold loud pl lo; (repeat' split) <;> first | rfl | omega))
      · refine j_tsw (tgt := 103) dX12_loudOf_58 hx58 (by omega) (by rw [h58]; rfl) (by decide) ?_
        refine j_iconst (pc' := 104) dX12_loudOf_103 rfl ?_
        refine j_iload (pc' := 106) (z := 0) dX12_loudOf_104 rfl rfl ?_
        refine j_imul (pc' := 107) dX12_loudOf_106 rfl ?_
        exact j_iret dX12_loudOf_107 rfl (rt_eq (by rw [hlds]; unfold loud pl lo; (repeat' split) <;> first | rfl | omega))
      · refine j_tsw (tgt := 108) dX12_loudOf_58 hx58 (by omega) (by rw [h58]; rfl) (by decide) ?_
        refine j_aload_n (pc' := 109) (z := q) dX12_loudOf_108 rfl rfl ?_
        refine j_iconst (pc' := 110) dX12_loudOf_109 rfl ?_
        refine j_iald (pc' := 111) dX12_loudOf_110 rfl (by omega) hr (by omega) (by decide) ?_
        refine j_top (b := D 6 1) hR.s1 ?_
        refine j_iconst (pc' := 112) dX12_loudOf_111 rfl ?_
        refine j_icmp_lt (tgt := 120) (pc' := 115) dX12_loudOf_112 (by decide) rfl (by omega) (by omega) (fun h112 => ?_) (fun h112 => ?_)
        · refine j_iconst (pc' := 121) dX12_loudOf_120 rfl ?_
          exact j_iret dX12_loudOf_121 rfl (rt_eq (by rw [hlds]; unfold loud pl lo; (repeat' split) <;> first | rfl | omega))
        · refine j_iload (pc' := 117) (z := (D 1 p)) dX12_loudOf_115 rfl rfl ?_
          refine j_goto (pc' := 121) dX12_loudOf_117 (by decide) ?_
          exact j_iret dX12_loudOf_121 rfl (rt_eq (by rw [hlds]; unfold loud pl lo; (repeat' split) <;> first | rfl | omega))
      · refine j_tsw (tgt := 122) dX12_loudOf_58 hx58 (by omega) (by rw [h58]; rfl) (by decide) ?_
        refine j_iload (pc' := 124) (z := (max 0 (0 - (D 6 2)))) dX12_loudOf_122 rfl rfl ?_
        exact j_iret dX12_loudOf_124 rfl (rt_eq (by rw [hlds]; unfold loud pl lo; (repeat' split) <;> first | rfl | omega))
      · refine j_tsw (tgt := 125) dX12_loudOf_58 hx58 (by omega) (by rw [h58]; rfl) (by decide) ?_
        refine j_iload (pc' := 127) (z := 0) dX12_loudOf_125 rfl rfl ?_
        refine j_if_le (tgt := 145) (pc' := 130) dX12_loudOf_127 (by decide) rfl (by omega) (fun h127 => ?_) (fun h127 => ?_)
        · refine j_iconst (pc' := 146) dX12_loudOf_145 rfl ?_
          refine j_iload (pc' := 148) (z := 0) dX12_loudOf_146 rfl rfl ?_
          refine j_imul (pc' := 149) dX12_loudOf_148 rfl ?_
          exact j_iret dX12_loudOf_149 rfl (rt_eq (by rw [hlds]; unfold loud pl lo; (repeat' split) <;> first | rfl | omega))
        · refine j_iload_n (pc' := 131) (z := pace) dX12_loudOf_130 rfl rfl ?_
          refine j_iconst (pc' := 132) dX12_loudOf_131 rfl ?_
          refine j_irem (pc' := 133) dX12_loudOf_132 rfl (by omega) (by omega) ?_
          refine j_if_ne (tgt := 145) (pc' := 136) dX12_loudOf_133 (by decide) rfl (by omega) (fun h133 => ?_) (fun h133 => ?_)
          · refine j_iconst (pc' := 146) dX12_loudOf_145 rfl ?_
            refine j_iload (pc' := 148) (z := 0) dX12_loudOf_146 rfl rfl ?_
            refine j_imul (pc' := 149) dX12_loudOf_148 rfl ?_
            exact j_iret dX12_loudOf_149 rfl (rt_eq (by rw [hlds]; unfold loud pl lo; (repeat' split) <;> first | rfl | omega))
          · refine j_iconst (pc' := 137) dX12_loudOf_136 rfl ?_
            refine j_iload (pc' := 139) (z := 0) dX12_loudOf_137 rfl rfl ?_
            refine j_imul (pc' := 140) dX12_loudOf_139 rfl ?_
            refine j_iconst (pc' := 141) dX12_loudOf_140 rfl ?_
            refine j_iadd (pc' := 142) dX12_loudOf_141 rfl ?_
            refine j_goto (pc' := 149) dX12_loudOf_142 (by decide) ?_
            exact j_iret dX12_loudOf_149 rfl (rt_eq (by rw [hlds]; unfold loud pl lo; (repeat' split) <;> first | rfl | omega))
      · refine j_tsw (tgt := 150) dX12_loudOf_58 hx58 (by omega) (by rw [h58]; rfl) (by decide) ?_
        refine j_iconst (pc' := 151) dX12_loudOf_150 rfl ?_
        exact j_iret dX12_loudOf_151 rfl (rt_eq (by rw [hlds]; unfold loud pl lo; (repeat' split) <;> first | rfl | omega))
      · refine j_tsw (tgt := 152) dX12_loudOf_58 hx58 (by omega) (by rw [h58]; rfl) (by decide) ?_
        refine j_iconst (pc' := 153) dX12_loudOf_152 rfl ?_
        refine j_iload (pc' := 155) (z := (max 0 (0 - (D 6 2)))) dX12_loudOf_153 rfl rfl ?_
        refine j_imul (pc' := 156) dX12_loudOf_155 rfl ?_
        exact j_iret dX12_loudOf_156 rfl (rt_eq (by rw [hlds]; unfold loud pl lo; (repeat' split) <;> first | rfl | omega))
      · refine j_tswd (tgt := 157) dX12_loudOf_58 hx58 h58 (by decide) ?_
        refine j_iload (pc' := 159) (z := 0) dX12_loudOf_157 rfl rfl ?_
        exact j_iret dX12_loudOf_159 rfl (rt_eq (by rw [hlds]; unfold loud pl lo; (repeat' split) <;> first | rfl | omega))
  · refine j_iload_n (pc' := 20) (z := (D 1 p)) dX12_loudOf_19 rfl rfl ?_
    refine j_goto (pc' := 24) dX12_loudOf_20 (by decide) ?_
    refine j_istore (pc' := 26) (L' := [some (aR q), some (aI p), some (aI pace), some (aI (D 1 p)), some (aI (D 1 p)), none, none]) dX12_loudOf_24 rfl (by decide) rfl ?_
    refine j_iload_n (pc' := 27) (z := pace) dX12_loudOf_26 rfl rfl ?_
    refine j_bipush (pc' := 29) dX12_loudOf_27 rfl (by decide) ?_
    refine j_icmp_lt (tgt := 36) (pc' := 32) dX12_loudOf_29 (by decide) rfl (by omega) (by omega) (fun h29 => ?_) (fun h29 => ?_)
    · refine j_iconst (pc' := 37) dX12_loudOf_36 rfl ?_
      refine j_istore (pc' := 39) (L' := [some (aR q), some (aI p), some (aI pace), some (aI (D 1 p)), some (aI (D 1 p)), some (aI 0), none]) dX12_loudOf_37 rfl (by decide) rfl ?_
      refine j_iconst (pc' := 40) dX12_loudOf_39 rfl ?_
      refine j_iload (pc' := 42) (z := (D 1 p)) dX12_loudOf_40 rfl rfl ?_
      refine j_aload_n (pc' := 43) (z := q) dX12_loudOf_42 rfl rfl ?_
      refine j_iconst (pc' := 44) dX12_loudOf_43 rfl ?_
      refine j_iald (pc' := 45) dX12_loudOf_44 rfl (by omega) hr (by omega) (by decide) ?_
      refine j_top (b := D 6 2) hR.s2 ?_
      refine j_isub (pc' := 46) dX12_loudOf_45 rfl ?_
      refine j_callS (pc' := 49) (as := [aI 0, aI ((D 1 p) - (D 6 2))]) (rest := []) dX12_loudOf_46 rfl s_Mod_57 (c_Mod_most (by omega) (by omega)) rfl rfl rfl (jdet (st' := [aI (max 0 ((D 1 p) - (D 6 2)))]) rfl ?_)
      refine j_istore (pc' := 51) (L' := [some (aR q), some (aI p), some (aI pace), some (aI (D 1 p)), some (aI (D 1 p)), some (aI 0), some (aI (max 0 ((D 1 p) - (D 6 2))))]) dX12_loudOf_49 rfl (by decide) rfl ?_
      refine j_aload_n (pc' := 52) (z := q) dX12_loudOf_51 rfl rfl ?_
      refine j_iload_n (pc' := 53) (z := p) dX12_loudOf_52 rfl rfl ?_
      refine j_iconst (pc' := 54) dX12_loudOf_53 rfl ?_
      refine j_callS (pc' := 57) (as := [aI p, aI 0]) (rest := [aR q]) dX12_loudOf_54 rfl s_Mod_53 c_Mod_at rfl rfl rfl (jdet (st' := [aI (6 + 6 * p + 0), aR q]) rfl ?_)
      refine j_iald (pc' := 58) dX12_loudOf_57 rfl (by omega) hr (by omega) (by decide) ?_
      refine j_top (b := D 0 p) (hR.pj (j := 0) (p := p) (by omega) (by omega)) ?_
      have hx58 : -2147483648 ≤ D 0 p ∧ D 0 p ≤ 2147483647 := (by omega)
      rcases (show D 0 p = 1 ∨ D 0 p = 2 ∨ D 0 p = 3 ∨ D 0 p = 4 ∨ D 0 p = 5 ∨ D 0 p = 6 ∨ D 0 p = 7 ∨ (D 0 p < 1 ∨ 7 < D 0 p) by omega) with h58 | h58 | h58 | h58 | h58 | h58 | h58 | h58
      · refine j_tsw (tgt := 100) dX12_loudOf_58 hx58 (by omega) (by rw [h58]; rfl) (by decide) ?_
        refine j_iload (pc' := 102) (z := 0) dX12_loudOf_100 rfl rfl ?_
        exact j_iret dX12_loudOf_102 rfl (rt_eq (by rw [hlds]; unfold loud pl lo; (repeat' split) <;> first | rfl | omega))
      · refine j_tsw (tgt := 103) dX12_loudOf_58 hx58 (by omega) (by rw [h58]; rfl) (by decide) ?_
        refine j_iconst (pc' := 104) dX12_loudOf_103 rfl ?_
        refine j_iload (pc' := 106) (z := (D 1 p)) dX12_loudOf_104 rfl rfl ?_
        refine j_imul (pc' := 107) dX12_loudOf_106 rfl ?_
        exact j_iret dX12_loudOf_107 rfl (rt_eq (by rw [hlds]; unfold loud pl lo; (repeat' split) <;> first | rfl | omega))
      · refine j_tsw (tgt := 108) dX12_loudOf_58 hx58 (by omega) (by rw [h58]; rfl) (by decide) ?_
        refine j_aload_n (pc' := 109) (z := q) dX12_loudOf_108 rfl rfl ?_
        refine j_iconst (pc' := 110) dX12_loudOf_109 rfl ?_
        refine j_iald (pc' := 111) dX12_loudOf_110 rfl (by omega) hr (by omega) (by decide) ?_
        refine j_top (b := D 6 1) hR.s1 ?_
        refine j_iconst (pc' := 112) dX12_loudOf_111 rfl ?_
        refine j_icmp_lt (tgt := 120) (pc' := 115) dX12_loudOf_112 (by decide) rfl (by omega) (by omega) (fun h112 => ?_) (fun h112 => ?_)
        · refine j_iconst (pc' := 121) dX12_loudOf_120 rfl ?_
          exact j_iret dX12_loudOf_121 rfl (rt_eq (by rw [hlds]; unfold loud pl lo; (repeat' split) <;> first | rfl | omega))
        · refine j_iload (pc' := 117) (z := 0) dX12_loudOf_115 rfl rfl ?_
          refine j_goto (pc' := 121) dX12_loudOf_117 (by decide) ?_
          exact j_iret dX12_loudOf_121 rfl (rt_eq (by rw [hlds]; unfold loud pl lo; (repeat' split) <;> first | rfl | omega))
      · refine j_tsw (tgt := 122) dX12_loudOf_58 hx58 (by omega) (by rw [h58]; rfl) (by decide) ?_
        refine j_iload (pc' := 124) (z := (max 0 ((D 1 p) - (D 6 2)))) dX12_loudOf_122 rfl rfl ?_
        exact j_iret dX12_loudOf_124 rfl (rt_eq (by rw [hlds]; unfold loud pl lo; (repeat' split) <;> first | rfl | omega))
      · refine j_tsw (tgt := 125) dX12_loudOf_58 hx58 (by omega) (by rw [h58]; rfl) (by decide) ?_
        refine j_iload (pc' := 127) (z := (D 1 p)) dX12_loudOf_125 rfl rfl ?_
        refine j_if_le (tgt := 145) (pc' := 130) dX12_loudOf_127 (by decide) rfl (by omega) (fun h127 => ?_) (fun h127 => ?_)
        · refine j_iconst (pc' := 146) dX12_loudOf_145 rfl ?_
          refine j_iload (pc' := 148) (z := (D 1 p)) dX12_loudOf_146 rfl rfl ?_
          refine j_imul (pc' := 149) dX12_loudOf_148 rfl ?_
          exact j_iret dX12_loudOf_149 rfl (rt_eq (by rw [hlds]; unfold loud pl lo; (repeat' split) <;> first | rfl | omega))
        · refine j_iload_n (pc' := 131) (z := pace) dX12_loudOf_130 rfl rfl ?_
          refine j_iconst (pc' := 132) dX12_loudOf_131 rfl ?_
          refine j_irem (pc' := 133) dX12_loudOf_132 rfl (by omega) (by omega) ?_
          refine j_if_ne (tgt := 145) (pc' := 136) dX12_loudOf_133 (by decide) rfl (by omega) (fun h133 => ?_) (fun h133 => ?_)
          · refine j_iconst (pc' := 146) dX12_loudOf_145 rfl ?_
            refine j_iload (pc' := 148) (z := (D 1 p)) dX12_loudOf_146 rfl rfl ?_
            refine j_imul (pc' := 149) dX12_loudOf_148 rfl ?_
            exact j_iret dX12_loudOf_149 rfl (rt_eq (by rw [hlds]; unfold loud pl lo; (repeat' split) <;> first | rfl | omega))
          · refine j_iconst (pc' := 137) dX12_loudOf_136 rfl ?_
            refine j_iload (pc' := 139) (z := (D 1 p)) dX12_loudOf_137 rfl rfl ?_
            refine j_imul (pc' := 140) dX12_loudOf_139 rfl ?_
            refine j_iconst (pc' := 141) dX12_loudOf_140 rfl ?_
            refine j_iadd (pc' := 142) dX12_loudOf_141 rfl ?_
            refine j_goto (pc' := 149) dX12_loudOf_142 (by decide) ?_
            exact j_iret dX12_loudOf_149 rfl (rt_eq (by rw [hlds]; unfold loud pl lo; (repeat' split) <;> first | rfl | omega))
      · refine j_tsw (tgt := 150) dX12_loudOf_58 hx58 (by omega) (by rw [h58]; rfl) (by decide) ?_
        refine j_iconst (pc' := 151) dX12_loudOf_150 rfl ?_
        exact j_iret dX12_loudOf_151 rfl (rt_eq (by rw [hlds]; unfold loud pl lo; (repeat' split) <;> first | rfl | omega))
      · refine j_tsw (tgt := 152) dX12_loudOf_58 hx58 (by omega) (by rw [h58]; rfl) (by decide) ?_
        refine j_iconst (pc' := 153) dX12_loudOf_152 rfl ?_
        refine j_iload (pc' := 155) (z := (max 0 ((D 1 p) - (D 6 2)))) dX12_loudOf_153 rfl rfl ?_
        refine j_imul (pc' := 156) dX12_loudOf_155 rfl ?_
        exact j_iret dX12_loudOf_156 rfl (rt_eq (by rw [hlds]; unfold loud pl lo; (repeat' split) <;> first | rfl | omega))
      · refine j_tswd (tgt := 157) dX12_loudOf_58 hx58 h58 (by decide) ?_
        refine j_iload (pc' := 159) (z := (D 1 p)) dX12_loudOf_157 rfl rfl ?_
        exact j_iret dX12_loudOf_159 rfl (rt_eq (by rw [hlds]; unfold loud pl lo; (repeat' split) <;> first | rfl | omega))
    · refine j_iload_n (pc' := 33) (z := (D 1 p)) dX12_loudOf_32 rfl rfl ?_
      refine j_goto (pc' := 37) dX12_loudOf_33 (by decide) ?_
      refine j_istore (pc' := 39) (L' := [some (aR q), some (aI p), some (aI pace), some (aI (D 1 p)), some (aI (D 1 p)), some (aI (D 1 p)), none]) dX12_loudOf_37 rfl (by decide) rfl ?_
      refine j_iconst (pc' := 40) dX12_loudOf_39 rfl ?_
      refine j_iload (pc' := 42) (z := (D 1 p)) dX12_loudOf_40 rfl rfl ?_
      refine j_aload_n (pc' := 43) (z := q) dX12_loudOf_42 rfl rfl ?_
      refine j_iconst (pc' := 44) dX12_loudOf_43 rfl ?_
      refine j_iald (pc' := 45) dX12_loudOf_44 rfl (by omega) hr (by omega) (by decide) ?_
      refine j_top (b := D 6 2) hR.s2 ?_
      refine j_isub (pc' := 46) dX12_loudOf_45 rfl ?_
      refine j_callS (pc' := 49) (as := [aI 0, aI ((D 1 p) - (D 6 2))]) (rest := []) dX12_loudOf_46 rfl s_Mod_57 (c_Mod_most (by omega) (by omega)) rfl rfl rfl (jdet (st' := [aI (max 0 ((D 1 p) - (D 6 2)))]) rfl ?_)
      refine j_istore (pc' := 51) (L' := [some (aR q), some (aI p), some (aI pace), some (aI (D 1 p)), some (aI (D 1 p)), some (aI (D 1 p)), some (aI (max 0 ((D 1 p) - (D 6 2))))]) dX12_loudOf_49 rfl (by decide) rfl ?_
      refine j_aload_n (pc' := 52) (z := q) dX12_loudOf_51 rfl rfl ?_
      refine j_iload_n (pc' := 53) (z := p) dX12_loudOf_52 rfl rfl ?_
      refine j_iconst (pc' := 54) dX12_loudOf_53 rfl ?_
      refine j_callS (pc' := 57) (as := [aI p, aI 0]) (rest := [aR q]) dX12_loudOf_54 rfl s_Mod_53 c_Mod_at rfl rfl rfl (jdet (st' := [aI (6 + 6 * p + 0), aR q]) rfl ?_)
      refine j_iald (pc' := 58) dX12_loudOf_57 rfl (by omega) hr (by omega) (by decide) ?_
      refine j_top (b := D 0 p) (hR.pj (j := 0) (p := p) (by omega) (by omega)) ?_
      have hx58 : -2147483648 ≤ D 0 p ∧ D 0 p ≤ 2147483647 := (by omega)
      rcases (show D 0 p = 1 ∨ D 0 p = 2 ∨ D 0 p = 3 ∨ D 0 p = 4 ∨ D 0 p = 5 ∨ D 0 p = 6 ∨ D 0 p = 7 ∨ (D 0 p < 1 ∨ 7 < D 0 p) by omega) with h58 | h58 | h58 | h58 | h58 | h58 | h58 | h58
      · refine j_tsw (tgt := 100) dX12_loudOf_58 hx58 (by omega) (by rw [h58]; rfl) (by decide) ?_
        refine j_iload (pc' := 102) (z := (D 1 p)) dX12_loudOf_100 rfl rfl ?_
        exact j_iret dX12_loudOf_102 rfl (rt_eq (by rw [hlds]; unfold loud pl lo; (repeat' split) <;> first | rfl | omega))
      · refine j_tsw (tgt := 103) dX12_loudOf_58 hx58 (by omega) (by rw [h58]; rfl) (by decide) ?_
        refine j_iconst (pc' := 104) dX12_loudOf_103 rfl ?_
        refine j_iload (pc' := 106) (z := (D 1 p)) dX12_loudOf_104 rfl rfl ?_
        refine j_imul (pc' := 107) dX12_loudOf_106 rfl ?_
        exact j_iret dX12_loudOf_107 rfl (rt_eq (by rw [hlds]; unfold loud pl lo; (repeat' split) <;> first | rfl | omega))
      · refine j_tsw (tgt := 108) dX12_loudOf_58 hx58 (by omega) (by rw [h58]; rfl) (by decide) ?_
        refine j_aload_n (pc' := 109) (z := q) dX12_loudOf_108 rfl rfl ?_
        refine j_iconst (pc' := 110) dX12_loudOf_109 rfl ?_
        refine j_iald (pc' := 111) dX12_loudOf_110 rfl (by omega) hr (by omega) (by decide) ?_
        refine j_top (b := D 6 1) hR.s1 ?_
        refine j_iconst (pc' := 112) dX12_loudOf_111 rfl ?_
        refine j_icmp_lt (tgt := 120) (pc' := 115) dX12_loudOf_112 (by decide) rfl (by omega) (by omega) (fun h112 => ?_) (fun h112 => ?_)
        · refine j_iconst (pc' := 121) dX12_loudOf_120 rfl ?_
          exact j_iret dX12_loudOf_121 rfl (rt_eq (by rw [hlds]; unfold loud pl lo; (repeat' split) <;> first | rfl | omega))
        · refine j_iload (pc' := 117) (z := (D 1 p)) dX12_loudOf_115 rfl rfl ?_
          refine j_goto (pc' := 121) dX12_loudOf_117 (by decide) ?_
          exact j_iret dX12_loudOf_121 rfl (rt_eq (by rw [hlds]; unfold loud pl lo; (repeat' split) <;> first | rfl | omega))
      · refine j_tsw (tgt := 122) dX12_loudOf_58 hx58 (by omega) (by rw [h58]; rfl) (by decide) ?_
        refine j_iload (pc' := 124) (z := (max 0 ((D 1 p) - (D 6 2)))) dX12_loudOf_122 rfl rfl ?_
        exact j_iret dX12_loudOf_124 rfl (rt_eq (by rw [hlds]; unfold loud pl lo; (repeat' split) <;> first | rfl | omega))
      · refine j_tsw (tgt := 125) dX12_loudOf_58 hx58 (by omega) (by rw [h58]; rfl) (by decide) ?_
        refine j_iload (pc' := 127) (z := (D 1 p)) dX12_loudOf_125 rfl rfl ?_
        refine j_if_le (tgt := 145) (pc' := 130) dX12_loudOf_127 (by decide) rfl (by omega) (fun h127 => ?_) (fun h127 => ?_)
        · refine j_iconst (pc' := 146) dX12_loudOf_145 rfl ?_
          refine j_iload (pc' := 148) (z := (D 1 p)) dX12_loudOf_146 rfl rfl ?_
          refine j_imul (pc' := 149) dX12_loudOf_148 rfl ?_
          exact j_iret dX12_loudOf_149 rfl (rt_eq (by rw [hlds]; unfold loud pl lo; (repeat' split) <;> first | rfl | omega))
        · refine j_iload_n (pc' := 131) (z := pace) dX12_loudOf_130 rfl rfl ?_
          refine j_iconst (pc' := 132) dX12_loudOf_131 rfl ?_
          refine j_irem (pc' := 133) dX12_loudOf_132 rfl (by omega) (by omega) ?_
          refine j_if_ne (tgt := 145) (pc' := 136) dX12_loudOf_133 (by decide) rfl (by omega) (fun h133 => ?_) (fun h133 => ?_)
          · refine j_iconst (pc' := 146) dX12_loudOf_145 rfl ?_
            refine j_iload (pc' := 148) (z := (D 1 p)) dX12_loudOf_146 rfl rfl ?_
            refine j_imul (pc' := 149) dX12_loudOf_148 rfl ?_
            exact j_iret dX12_loudOf_149 rfl (rt_eq (by rw [hlds]; unfold loud pl lo; (repeat' split) <;> first | rfl | omega))
          · refine j_iconst (pc' := 137) dX12_loudOf_136 rfl ?_
            refine j_iload (pc' := 139) (z := (D 1 p)) dX12_loudOf_137 rfl rfl ?_
            refine j_imul (pc' := 140) dX12_loudOf_139 rfl ?_
            refine j_iconst (pc' := 141) dX12_loudOf_140 rfl ?_
            refine j_iadd (pc' := 142) dX12_loudOf_141 rfl ?_
            refine j_goto (pc' := 149) dX12_loudOf_142 (by decide) ?_
            exact j_iret dX12_loudOf_149 rfl (rt_eq (by rw [hlds]; unfold loud pl lo; (repeat' split) <;> first | rfl | omega))
      · refine j_tsw (tgt := 150) dX12_loudOf_58 hx58 (by omega) (by rw [h58]; rfl) (by decide) ?_
        refine j_iconst (pc' := 151) dX12_loudOf_150 rfl ?_
        exact j_iret dX12_loudOf_151 rfl (rt_eq (by rw [hlds]; unfold loud pl lo; (repeat' split) <;> first | rfl | omega))
      · refine j_tsw (tgt := 152) dX12_loudOf_58 hx58 (by omega) (by rw [h58]; rfl) (by decide) ?_
        refine j_iconst (pc' := 153) dX12_loudOf_152 rfl ?_
        refine j_iload (pc' := 155) (z := (max 0 ((D 1 p) - (D 6 2)))) dX12_loudOf_153 rfl rfl ?_
        refine j_imul (pc' := 156) dX12_loudOf_155 rfl ?_
        exact j_iret dX12_loudOf_156 rfl (rt_eq (by rw [hlds]; unfold loud pl lo; (repeat' split) <;> first | rfl | omega))
      · refine j_tswd (tgt := 157) dX12_loudOf_58 hx58 h58 (by decide) ?_
        refine j_iload (pc' := 159) (z := (D 1 p)) dX12_loudOf_157 rfl rfl ?_
        exact j_iret dX12_loudOf_159 rfl (rt_eq (by rw [hlds]; unfold loud pl lo; (repeat' split) <;> first | rfl | omega))
set_option maxRecDepth 100000 in
set_option maxHeartbeats 4000000 in
theorem c_Mod_secondsOf {l : Launch} {w : AW} {q : Nat} {S : Int → Int} {D : Int → Int → Int} {n mi : Int} {p : Int} (hr : w q = eI 48 S) (hq : q < 68) (hR : Rw S D n mi) (hB : CarOK D n mi) (hp : 0 ≤ p ∧ p < n) : Call l m_Mod_secondsOf false 68 68 [aR q, aI p] w (rt (some (aI (secs (D 0 p) (D 1 p)))) w) := by
  obtain ⟨hn, hD, hs0, hs1, hs2, hs3⟩ := id hB
  have hDp := hD p (by omega) (by omega)
  refine Call.of (L := [some (aR q), some (aI p), none]) rfl (Nat.le_of_ble_eq_true rfl) rfl (fun G ad => ?_)
  refine j_aload_n (pc' := 1) (z := q) dX12_secondsOf_0 rfl rfl ?_
  refine j_iload_n (pc' := 2) (z := p) dX12_secondsOf_1 rfl rfl ?_
  refine j_iconst (pc' := 3) dX12_secondsOf_2 rfl ?_
  refine j_callS (pc' := 6) (as := [aI p, aI 1]) (rest := [aR q]) dX12_secondsOf_3 rfl s_Mod_53 c_Mod_at rfl rfl rfl (jdet (st' := [aI (6 + 6 * p + 1), aR q]) rfl ?_)
  refine j_iald (pc' := 7) dX12_secondsOf_6 rfl (by omega) hr (by omega) (by decide) ?_
  refine j_top (b := D 1 p) (hR.pj (j := 1) (p := p) (by omega) (by omega)) ?_
  refine j_istore_n (pc' := 8) (L' := [some (aR q), some (aI p), some (aI (D 1 p))]) dX12_secondsOf_7 rfl (by decide) rfl ?_
  refine j_aload_n (pc' := 9) (z := q) dX12_secondsOf_8 rfl rfl ?_
  refine j_iload_n (pc' := 10) (z := p) dX12_secondsOf_9 rfl rfl ?_
  refine j_iconst (pc' := 11) dX12_secondsOf_10 rfl ?_
  refine j_callS (pc' := 14) (as := [aI p, aI 0]) (rest := [aR q]) dX12_secondsOf_11 rfl s_Mod_53 c_Mod_at rfl rfl rfl (jdet (st' := [aI (6 + 6 * p + 0), aR q]) rfl ?_)
  refine j_iald (pc' := 15) dX12_secondsOf_14 rfl (by omega) hr (by omega) (by decide) ?_
  refine j_top (b := D 0 p) (hR.pj (j := 0) (p := p) (by omega) (by omega)) ?_
  have hx15 : -2147483648 ≤ D 0 p ∧ D 0 p ≤ 2147483647 := (by omega)
  rcases (show D 0 p = 1 ∨ D 0 p = 2 ∨ D 0 p = 3 ∨ D 0 p = 4 ∨ D 0 p = 5 ∨ D 0 p = 6 ∨ D 0 p = 7 ∨ (D 0 p < 1 ∨ 7 < D 0 p) by omega) with h15 | h15 | h15 | h15 | h15 | h15 | h15 | h15
  · refine j_tsw (tgt := 56) dX12_secondsOf_15 hx15 (by omega) (by rw [h15]; rfl) (by decide) ?_
    refine j_bipush (pc' := 58) dX12_secondsOf_56 rfl (by decide) ?_
    exact j_iret dX12_secondsOf_58 rfl (rt_eq (by unfold secs; (repeat' split) <;> first | rfl | omega))
  · refine j_tsw (tgt := 59) dX12_secondsOf_15 hx15 (by omega) (by rw [h15]; rfl) (by decide) ?_
    refine j_bipush (pc' := 61) dX12_secondsOf_59 rfl (by decide) ?_
    refine j_iload_n (pc' := 62) (z := (D 1 p)) dX12_secondsOf_61 rfl rfl ?_
    refine j_iadd (pc' := 63) dX12_secondsOf_62 rfl ?_
    exact j_iret dX12_secondsOf_63 rfl (rt_eq (by unfold secs; (repeat' split) <;> first | rfl | omega))
  · refine j_tsw (tgt := 64) dX12_secondsOf_15 hx15 (by omega) (by rw [h15]; rfl) (by decide) ?_
    refine j_bipush (pc' := 66) dX12_secondsOf_64 rfl (by decide) ?_
    exact j_iret dX12_secondsOf_66 rfl (rt_eq (by unfold secs; (repeat' split) <;> first | rfl | omega))
  · refine j_tsw (tgt := 67) dX12_secondsOf_15 hx15 (by omega) (by rw [h15]; rfl) (by decide) ?_
    refine j_bipush (pc' := 69) dX12_secondsOf_67 rfl (by decide) ?_
    exact j_iret dX12_secondsOf_69 rfl (rt_eq (by unfold secs; (repeat' split) <;> first | rfl | omega))
  · refine j_tsw (tgt := 70) dX12_secondsOf_15 hx15 (by omega) (by rw [h15]; rfl) (by decide) ?_
    refine j_bipush (pc' := 72) dX12_secondsOf_70 rfl (by decide) ?_
    refine j_iload_n (pc' := 73) (z := (D 1 p)) dX12_secondsOf_72 rfl rfl ?_
    refine j_iadd (pc' := 74) dX12_secondsOf_73 rfl ?_
    exact j_iret dX12_secondsOf_74 rfl (rt_eq (by unfold secs; (repeat' split) <;> first | rfl | omega))
  · refine j_tsw (tgt := 75) dX12_secondsOf_15 hx15 (by omega) (by rw [h15]; rfl) (by decide) ?_
    refine j_bipush (pc' := 77) dX12_secondsOf_75 rfl (by decide) ?_
    exact j_iret dX12_secondsOf_77 rfl (rt_eq (by unfold secs; (repeat' split) <;> first | rfl | omega))
  · refine j_tsw (tgt := 67) dX12_secondsOf_15 hx15 (by omega) (by rw [h15]; rfl) (by decide) ?_
    refine j_bipush (pc' := 69) dX12_secondsOf_67 rfl (by decide) ?_
    exact j_iret dX12_secondsOf_69 rfl (rt_eq (by unfold secs; (repeat' split) <;> first | rfl | omega))
  · refine j_tswd (tgt := 75) dX12_secondsOf_15 hx15 h15 (by decide) ?_
    refine j_bipush (pc' := 77) dX12_secondsOf_75 rfl (by decide) ?_
    exact j_iret dX12_secondsOf_77 rfl (rt_eq (by unfold secs; (repeat' split) <;> first | rfl | omega))
set_option maxRecDepth 100000 in
set_option maxHeartbeats 4000000 in
theorem c_Mod_loosensOf {l : Launch} {w : AW} {q : Nat} {S : Int → Int} {D : Int → Int → Int} {n mi : Int} {p : Int} (hr : w q = eI 48 S) (hq : q < 68) (hR : Rw S D n mi) (hB : CarOK D n mi) (hp : 0 ≤ p ∧ p < n) : Call l m_Mod_loosensOf false 68 68 [aR q, aI p] w (rt (some (aI (loos (D 0 p)))) w) := by
  obtain ⟨hn, hD, hs0, hs1, hs2, hs3⟩ := id hB
  have hDp := hD p (by omega) (by omega)
  refine Call.of (L := [some (aR q), some (aI p), none]) rfl (Nat.le_of_ble_eq_true rfl) rfl (fun G ad => ?_)
  refine j_aload_n (pc' := 1) (z := q) dX12_loosensOf_0 rfl rfl ?_
  refine j_iload_n (pc' := 2) (z := p) dX12_loosensOf_1 rfl rfl ?_
  refine j_iconst (pc' := 3) dX12_loosensOf_2 rfl ?_
  refine j_callS (pc' := 6) (as := [aI p, aI 0]) (rest := [aR q]) dX12_loosensOf_3 rfl s_Mod_53 c_Mod_at rfl rfl rfl (jdet (st' := [aI (6 + 6 * p + 0), aR q]) rfl ?_)
  refine j_iald (pc' := 7) dX12_loosensOf_6 rfl (by omega) hr (by omega) (by decide) ?_
  refine j_top (b := D 0 p) (hR.pj (j := 0) (p := p) (by omega) (by omega)) ?_
  refine j_istore_n (pc' := 8) (L' := [some (aR q), some (aI p), some (aI (D 0 p))]) dX12_loosensOf_7 rfl (by decide) rfl ?_
  refine j_iload_n (pc' := 9) (z := (D 0 p)) dX12_loosensOf_8 rfl rfl ?_
  refine j_iconst (pc' := 10) dX12_loosensOf_9 rfl ?_
  refine j_icmp_eq (tgt := 18) (pc' := 13) dX12_loosensOf_10 (by decide) rfl (by omega) (by omega) (fun h10 => ?_) (fun h10 => ?_)
  · refine j_iconst (pc' := 19) dX12_loosensOf_18 rfl ?_
    refine j_goto (pc' := 33) dX12_loosensOf_19 (by decide) ?_
    exact j_iret dX12_loosensOf_33 rfl (rt_eq (by unfold loos; (repeat' split) <;> first | rfl | omega))
  · refine j_iload_n (pc' := 14) (z := (D 0 p)) dX12_loosensOf_13 rfl rfl ?_
    refine j_iconst (pc' := 15) dX12_loosensOf_14 rfl ?_
    refine j_icmp_ne (tgt := 22) (pc' := 18) dX12_loosensOf_15 (by decide) rfl (by omega) (by omega) (fun h15 => ?_) (fun h15 => ?_)
    · refine j_iload_n (pc' := 23) (z := (D 0 p)) dX12_loosensOf_22 rfl rfl ?_
      refine j_bipush (pc' := 25) dX12_loosensOf_23 rfl (by decide) ?_
      refine j_icmp_ne (tgt := 32) (pc' := 28) dX12_loosensOf_25 (by decide) rfl (by omega) (by omega) (fun h25 => ?_) (fun h25 => ?_)
      · refine j_iconst (pc' := 33) dX12_loosensOf_32 rfl ?_
        exact j_iret dX12_loosensOf_33 rfl (rt_eq (by unfold loos; (repeat' split) <;> first | rfl | omega))
      · refine j_iconst (pc' := 29) dX12_loosensOf_28 rfl ?_
        refine j_goto (pc' := 33) dX12_loosensOf_29 (by decide) ?_
        exact j_iret dX12_loosensOf_33 rfl (rt_eq (by unfold loos; (repeat' split) <;> first | rfl | omega))
    · refine j_iconst (pc' := 19) dX12_loosensOf_18 rfl ?_
      refine j_goto (pc' := 33) dX12_loosensOf_19 (by decide) ?_
      exact j_iret dX12_loosensOf_33 rfl (rt_eq (by unfold loos; (repeat' split) <;> first | rfl | omega))
set_option maxRecDepth 100000 in
set_option maxHeartbeats 4000000 in
theorem c_Mod_partAt {l : Launch} {w : AW} {q : Nat} {S : Int → Int} {D : Int → Int → Int} {n mi : Int} {p seat pace : Int} (hr : w q = eI 48 S) (hq : q < 68) (hR : Rw S D n mi) (hB : CarOK D n mi) (hp : 0 ≤ p ∧ p < n) (hse : 0 ≤ seat ∧ seat ≤ 3) (hpa : 0 ≤ pace ∧ pace ≤ 1000) : Call l m_Mod_partAt false 68 68 [aR q, aI p, aI seat, aI pace] w (rt (some (aI (snd D p seat pace))) w) := by
  obtain ⟨hn, hD, hs0, hs1, hs2, hs3⟩ := id hB
  have hDp := hD p (by omega) (by omega)
  have hlb := loud_bd (k := D 0 p) (pace := pace) (cold := D 6 1) (load := D 6 2) (by omega : 0 ≤ D 1 p ∧ D 1 p ≤ 9) (by omega)
  have hlds : lds D p pace = loud (D 0 p) (D 1 p) pace (D 6 1) (D 6 2) := rfl
  have hia : iab (D 2 p - seat) = iab (seat - D 2 p) := by unfold iab; (repeat' split) <;> omega
  have hib : 0 ≤ iab (D 2 p - seat) ∧ iab (D 2 p - seat) ≤ 3 := by unfold iab; (repeat' split) <;> omega
  refine Call.of (L := [some (aR q), some (aI p), some (aI seat), some (aI pace)]) rfl (Nat.le_of_ble_eq_true rfl) rfl (fun G ad => ?_)
  refine j_aload_n (pc' := 1) (z := q) dX12_partAt_0 rfl rfl ?_
  refine j_iload_n (pc' := 2) (z := p) dX12_partAt_1 rfl rfl ?_
  refine j_iconst (pc' := 3) dX12_partAt_2 rfl ?_
  refine j_callS (pc' := 6) (as := [aI p, aI 4]) (rest := [aR q]) dX12_partAt_3 rfl s_Mod_53 c_Mod_at rfl rfl rfl (jdet (st' := [aI (6 + 6 * p + 4), aR q]) rfl ?_)
  refine j_iald (pc' := 7) dX12_partAt_6 rfl (by omega) hr (by omega) (by decide) ?_
  refine j_top (b := D 4 p) (hR.pj (j := 4) (p := p) (by omega) (by omega)) ?_
  refine j_if_eq (tgt := 14) (pc' := 10) dX12_partAt_7 (by decide) rfl (by omega) (fun h7 => ?_) (fun h7 => ?_)
  · refine j_iconst (pc' := 15) dX12_partAt_14 rfl ?_
    refine j_aload_n (pc' := 16) (z := q) dX12_partAt_15 rfl rfl ?_
    refine j_iload_n (pc' := 17) (z := p) dX12_partAt_16 rfl rfl ?_
    refine j_iload_n (pc' := 18) (z := pace) dX12_partAt_17 rfl rfl ?_
    refine j_callS (pc' := 21) (as := [aR q, aI p, aI pace]) (rest := [aI 0]) dX12_partAt_18 rfl s_Mod_60 (c_Mod_loudOf hr (by omega) hR.w hB (by omega) (by omega)) rfl rfl rfl (jdet (st' := [aI (lds D p pace), aI 0]) rfl ?_)
    refine j_aload_n (pc' := 22) (z := q) dX12_partAt_21 rfl rfl ?_
    refine j_iload_n (pc' := 23) (z := p) dX12_partAt_22 rfl rfl ?_
    refine j_iconst (pc' := 24) dX12_partAt_23 rfl ?_
    refine j_callS (pc' := 27) (as := [aI p, aI 2]) (rest := [aR q, aI (lds D p pace), aI 0]) dX12_partAt_24 rfl s_Mod_53 c_Mod_at rfl rfl rfl (jdet (st' := [aI (6 + 6 * p + 2), aR q, aI (lds D p pace), aI 0]) rfl ?_)
    refine j_iald (pc' := 28) dX12_partAt_27 rfl (by omega) hr (by omega) (by decide) ?_
    refine j_top (b := D 2 p) (hR.pj (j := 2) (p := p) (by omega) (by omega)) ?_
    refine j_iload_n (pc' := 29) (z := seat) dX12_partAt_28 rfl rfl ?_
    refine j_isub (pc' := 30) dX12_partAt_29 rfl ?_
    refine j_callS (pc' := 33) (as := [aI ((D 2 p) - seat)]) (rest := [aI (lds D p pace), aI 0]) dX12_partAt_30 rfl s_Mod_64 (c_Mod_size (by omega)) rfl rfl rfl (jdet (st' := [aI (iab ((D 2 p) - seat)), aI (lds D p pace), aI 0]) rfl ?_)
    refine j_isub (pc' := 34) dX12_partAt_33 rfl ?_
    refine j_callS (pc' := 37) (as := [aI 0, aI ((lds D p pace) - (iab ((D 2 p) - seat)))]) (rest := []) dX12_partAt_34 rfl s_Mod_57 (c_Mod_most (by omega) (by omega)) rfl rfl rfl (jdet (st' := [aI (max 0 ((lds D p pace) - (iab ((D 2 p) - seat))))]) rfl ?_)
    exact j_iret dX12_partAt_37 rfl (rt_eq (by unfold snd; split <;> first | rfl | omega))
  · refine j_iconst (pc' := 11) dX12_partAt_10 rfl ?_
    refine j_goto (pc' := 37) dX12_partAt_11 (by decide) ?_
    exact j_iret dX12_partAt_37 rfl (rt_eq (by unfold snd; split <;> first | rfl | omega))
set_option maxRecDepth 100000 in
set_option maxHeartbeats 4000000 in
theorem c_Mod_soundAt {l : Launch} {w : AW} {q : Nat} {S : Int → Int} {D : Int → Int → Int} {n mi : Int} {seat pace : Int} (hr : w q = eI 48 S) (hq : q < 68) (hR : Rw S D n mi) (hB : CarOK D n mi) (hse : 0 ≤ seat ∧ seat ≤ 3) (hpa : 0 ≤ pace ∧ pace ≤ 1000) : Call l m_Mod_soundAt false 68 68 [aR q, aI seat, aI pace] w (rt (some (aI (sumI (fun p => snd D p seat pace) n))) w) := by
  obtain ⟨hn, hD, hs0, hs1, hs2, hs3⟩ := id hB
  refine Call.of (L := [some (aR q), some (aI seat), some (aI pace), none, none]) rfl (Nat.le_of_ble_eq_true rfl) rfl (fun G ad => ?_)
  refine j_iconst (pc' := 1) dX12_soundAt_0 rfl ?_
  refine j_istore_n (pc' := 2) (L' := [some (aR q), some (aI seat), some (aI pace), some (aI 0), none]) dX12_soundAt_1 rfl (by decide) rfl ?_
  refine j_iconst (pc' := 3) dX12_soundAt_2 rfl ?_
  refine j_istore (pc' := 5) (L' := [some (aR q), some (aI seat), some (aI pace), some (aI 0), some (aI 0)]) dX12_soundAt_3 rfl (by decide) rfl ?_
  have lp5 : ∀ (k9 : Nat) (v : Int) (i : Int), (0 ≤ i ∧ i ≤ n) → (v = sumI (fun p => snd D p seat pace) i) → ((n - i).toNat) = k9 → J l m_Mod_soundAt ad G [] false (jZ ad G false 68 m_Mod_soundAt.2.2.2.2.cells m_Mod_soundAt.2.2.2.2.slots (rt (some (aI (sumI (fun p => snd D p seat pace) n))) w)) 68 0 0 5 [some (aR q), some (aI seat), some (aI pace), some (aI v), some (aI i)] [] w := by
    intro k9
    induction k9 using Nat.strongRecOn with
    | _ k9 ih5 =>
      intro v i hi hv hk5
      refine j_iload (pc' := 7) (z := i) dX12_soundAt_5 rfl rfl ?_
      refine j_aload_n (pc' := 8) (z := q) dX12_soundAt_7 rfl rfl ?_
      refine j_iconst (pc' := 9) dX12_soundAt_8 rfl ?_
      refine j_iald (pc' := 10) dX12_soundAt_9 rfl (by omega) hr (by omega) (by decide) ?_
      refine j_top (b := n) hR.pn ?_
      refine j_icmp_ge (tgt := 30) (pc' := 13) dX12_soundAt_10 (by decide) rfl (by omega) (by omega) (fun h10 => ?_) (fun h10 => ?_)
      · refine j_iload_n (pc' := 31) (z := v) dX12_soundAt_30 rfl rfl ?_
        exact j_iret dX12_soundAt_31 rfl (rt_eq (by rw [hv, show i = n by omega]))
      · refine j_iload_n (pc' := 14) (z := v) dX12_soundAt_13 rfl rfl ?_
        refine j_aload_n (pc' := 15) (z := q) dX12_soundAt_14 rfl rfl ?_
        refine j_iload (pc' := 17) (z := i) dX12_soundAt_15 rfl rfl ?_
        refine j_iload_n (pc' := 18) (z := seat) dX12_soundAt_17 rfl rfl ?_
        refine j_iload_n (pc' := 19) (z := pace) dX12_soundAt_18 rfl rfl ?_
        refine j_callS (pc' := 22) (as := [aR q, aI i, aI seat, aI pace]) (rest := [aI v]) dX12_soundAt_19 rfl s_Mod_67 (c_Mod_partAt hr (by omega) hR.w hB (by omega) (by omega) (by omega)) rfl rfl rfl (jdet (st' := [aI (snd D i seat pace), aI v]) rfl ?_)
        refine j_iadd (pc' := 23) dX12_soundAt_22 rfl ?_
        refine j_istore_n (pc' := 24) (L' := [some (aR q), some (aI seat), some (aI pace), some (aI (v + (snd D i seat pace))), some (aI i)]) dX12_soundAt_23 rfl (by decide) rfl ?_
        refine j_iinc (pc' := 27) (z := i) (L' := [some (aR q), some (aI seat), some (aI pace), some (aI (v + (snd D i seat pace))), some (aI (i + 1))]) dX12_soundAt_24 rfl (by decide) rfl rfl rfl ?_
        refine j_goto (pc' := 5) dX12_soundAt_27 (by decide) ?_
        exact ih5 _ (by omega) (v + (snd D i seat pace)) (i + 1) (by omega) (by rw [sumI_s (by omega), ← hv]) rfl
  exact lp5 _ 0 0 (by omega) (by rfl) rfl
set_option maxRecDepth 100000 in
set_option maxHeartbeats 4000000 in
theorem c_Mod_heardAt {l : Launch} {w : AW} {q : Nat} {S : Int → Int} {D : Int → Int → Int} {n mi : Int} {seat pace : Int} (hr : w q = eI 48 S) (hq : q < 68) (hR : Rw S D n mi) (hB : CarOK D n mi) (hse : 0 ≤ seat ∧ seat ≤ 3) (hpa : 0 ≤ pace ∧ pace ≤ 1000) : Call l m_Mod_heardAt false 68 68 [aR q, aI seat, aI pace] w (rt (some (aI (hrd D n seat pace))) w) := by
  obtain ⟨hn, hD, hs0, hs1, hs2, hs3⟩ := id hB
  have hsb := sab_bd (set := 0) (seat := seat) (pace := pace) hB
  rw [sab0] at hsb
  refine Call.of (L := [some (aR q), some (aI seat), some (aI pace)]) rfl (Nat.le_of_ble_eq_true rfl) rfl (fun G ad => ?_)
  refine j_iconst (pc' := 1) dX12_heardAt_0 rfl ?_
  refine j_aload_n (pc' := 2) (z := q) dX12_heardAt_1 rfl rfl ?_
  refine j_iload_n (pc' := 3) (z := seat) dX12_heardAt_2 rfl rfl ?_
  refine j_iload_n (pc' := 4) (z := pace) dX12_heardAt_3 rfl rfl ?_
  refine j_callS (pc' := 7) (as := [aR q, aI seat, aI pace]) (rest := [aI 0]) dX12_heardAt_4 rfl s_Mod_71 (c_Mod_soundAt hr (by omega) hR.w hB (by omega) (by omega)) rfl rfl rfl (jdet (st' := [aI (sumI (fun p => snd D p seat pace) n), aI 0]) rfl ?_)
  refine j_aload_n (pc' := 8) (z := q) dX12_heardAt_7 rfl rfl ?_
  refine j_iconst (pc' := 9) dX12_heardAt_8 rfl ?_
  refine j_iald (pc' := 10) dX12_heardAt_9 rfl (by omega) hr (by omega) (by decide) ?_
  refine j_top (b := D 6 3) hR.s3 ?_
  refine j_isub (pc' := 11) dX12_heardAt_10 rfl ?_
  refine j_callS (pc' := 14) (as := [aI 0, aI ((sumI (fun p => snd D p seat pace) n) - (D 6 3))]) (rest := []) dX12_heardAt_11 rfl s_Mod_57 (c_Mod_most (by omega) (by omega)) rfl rfl rfl (jdet (st' := [aI (max 0 ((sumI (fun p => snd D p seat pace) n) - (D 6 3)))]) rfl ?_)
  exact j_iret dX12_heardAt_14 rfl (rt_eq (by rfl))
set_option maxRecDepth 100000 in
set_option maxHeartbeats 4000000 in
theorem c_Mod_heardNow {l : Launch} {w : AW} {q : Nat} {S : Int → Int} {D : Int → Int → Int} {n mi : Int}  (hr : w q = eI 48 S) (hq : q < 68) (hR : Rw S D n mi) (hB : CarOK D n mi)  : Call l m_Mod_heardNow false 68 68 [aR q] w (rt (some (aI (hrd D n 0 (D 6 0)))) w) := by
  obtain ⟨hn, hD, hs0, hs1, hs2, hs3⟩ := id hB
  refine Call.of (L := [some (aR q)]) rfl (Nat.le_of_ble_eq_true rfl) rfl (fun G ad => ?_)
  refine j_aload_n (pc' := 1) (z := q) dX12_heardNow_0 rfl rfl ?_
  refine j_iconst (pc' := 2) dX12_heardNow_1 rfl ?_
  refine j_aload_n (pc' := 3) (z := q) dX12_heardNow_2 rfl rfl ?_
  refine j_iconst (pc' := 4) dX12_heardNow_3 rfl ?_
  refine j_iald (pc' := 5) dX12_heardNow_4 rfl (by omega) hr (by omega) (by decide) ?_
  refine j_top (b := D 6 0) hR.s0 ?_
  refine j_callS (pc' := 8) (as := [aR q, aI 0, aI (D 6 0)]) (rest := []) dX12_heardNow_5 rfl s_Mod_74 (c_Mod_heardAt hr (by omega) hR.w hB (by omega) (by omega)) rfl rfl rfl (jdet (st' := [aI (hrd D n 0 (D 6 0))]) rfl ?_)
  exact j_iret dX12_heardNow_8 rfl (rt_eq (by rfl))
set_option maxRecDepth 100000 in
set_option maxHeartbeats 4000000 in
theorem c_Mod_figuresOf {l : Launch} {w : AW} {q : Nat} {S : Int → Int} {D : Int → Int → Int} {n mi : Int}  (hr : w q = eI 48 S) (hq : q < 68) (hR : Rw S D n mi) (hB : CarOK D n mi)  : Call l m_Mod_figuresOf false 68 68 [aR q] w (rt (some (aI (figs D n))) w) := by
  obtain ⟨hn, hD, hs0, hs1, hs2, hs3⟩ := id hB
  refine Call.of (L := [some (aR q), none, none]) rfl (Nat.le_of_ble_eq_true rfl) rfl (fun G ad => ?_)
  refine j_iconst (pc' := 1) dX12_figuresOf_0 rfl ?_
  refine j_istore_n (pc' := 2) (L' := [some (aR q), some (aI 0), none]) dX12_figuresOf_1 rfl (by decide) rfl ?_
  refine j_iconst (pc' := 3) dX12_figuresOf_2 rfl ?_
  refine j_istore_n (pc' := 4) (L' := [some (aR q), some (aI 0), some (aI 0)]) dX12_figuresOf_3 rfl (by decide) rfl ?_
  have lp4 : ∀ (k9 : Nat) (v : Int) (i : Int), (0 ≤ i ∧ i ≤ n) → (v = figs D i) → ((n - i).toNat) = k9 → J l m_Mod_figuresOf ad G [] false (jZ ad G false 68 m_Mod_figuresOf.2.2.2.2.cells m_Mod_figuresOf.2.2.2.2.slots (rt (some (aI (figs D n))) w)) 68 0 0 4 [some (aR q), some (aI v), some (aI i)] [] w := by
    intro k9
    induction k9 using Nat.strongRecOn with
    | _ k9 ih4 =>
      intro v i hi hv hk4
      refine j_iload_n (pc' := 5) (z := i) dX12_figuresOf_4 rfl rfl ?_
      refine j_aload_n (pc' := 6) (z := q) dX12_figuresOf_5 rfl rfl ?_
      refine j_iconst (pc' := 7) dX12_figuresOf_6 rfl ?_
      refine j_iald (pc' := 8) dX12_figuresOf_7 rfl (by omega) hr (by omega) (by decide) ?_
      refine j_top (b := n) hR.pn ?_
      refine j_icmp_ge (tgt := 27) (pc' := 11) dX12_figuresOf_8 (by decide) rfl (by omega) (by omega) (fun h8 => ?_) (fun h8 => ?_)
      · refine j_iload_n (pc' := 28) (z := v) dX12_figuresOf_27 rfl rfl ?_
        exact j_iret dX12_figuresOf_28 rfl (rt_eq (by rw [hv, show i = n by omega]))
      · refine j_iload_n (pc' := 12) (z := v) dX12_figuresOf_11 rfl rfl ?_
        refine j_aload_n (pc' := 13) (z := q) dX12_figuresOf_12 rfl rfl ?_
        refine j_iload_n (pc' := 14) (z := i) dX12_figuresOf_13 rfl rfl ?_
        refine j_iconst (pc' := 15) dX12_figuresOf_14 rfl ?_
        refine j_callS (pc' := 18) (as := [aI i, aI 1]) (rest := [aR q, aI v]) dX12_figuresOf_15 rfl s_Mod_53 c_Mod_at rfl rfl rfl (jdet (st' := [aI (6 + 6 * i + 1), aR q, aI v]) rfl ?_)
        refine j_iald (pc' := 19) dX12_figuresOf_18 rfl (by omega) hr (by omega) (by decide) ?_
        refine j_top (b := D 1 i) (hR.pj (j := 1) (p := i) (by omega) (by omega)) ?_
        refine j_iadd (pc' := 20) dX12_figuresOf_19 rfl ?_
        refine j_istore_n (pc' := 21) (L' := [some (aR q), some (aI (v + (D 1 i))), some (aI i)]) dX12_figuresOf_20 rfl (by decide) rfl ?_
        refine j_iinc (pc' := 24) (z := i) (L' := [some (aR q), some (aI (v + (D 1 i))), some (aI (i + 1))]) dX12_figuresOf_21 rfl (by decide) rfl rfl rfl ?_
        refine j_goto (pc' := 4) dX12_figuresOf_24 (by decide) ?_
        exact ih4 _ (by omega) (v + (D 1 i)) (i + 1) (by omega) (by unfold figs at hv ⊢; rw [sumI_s (by omega), ← hv]) rfl
  exact lp4 _ 0 0 (by omega) (by rfl) rfl
set_option maxRecDepth 100000 in
set_option maxHeartbeats 4000000 in
theorem c_Mod_loudestAt {l : Launch} {w : AW} {q : Nat} {S : Int → Int} {D : Int → Int → Int} {n mi : Int} {seat : Int} (hr : w q = eI 48 S) (hq : q < 68) (hR : Rw S D n mi) (hB : CarOK D n mi) (hse : 0 ≤ seat ∧ seat ≤ 3) : Call l m_Mod_loudestAt false 68 68 [aR q, aI seat] w (rt (some (aI ((lst D n seat).1))) w) := by
  obtain ⟨hn, hD, hs0, hs1, hs2, hs3⟩ := id hB
  refine Call.of (L := [some (aR q), some (aI seat), none, none, none]) rfl (Nat.le_of_ble_eq_true rfl) rfl (fun G ad => ?_)
  refine j_bipush (pc' := 2) dX12_loudestAt_0 rfl (by decide) ?_
  refine j_istore_n (pc' := 3) (L' := [some (aR q), some (aI seat), some (aI (-4)), none, none]) dX12_loudestAt_2 rfl (by decide) rfl ?_
  refine j_iconst (pc' := 4) dX12_loudestAt_3 rfl ?_
  refine j_istore_n (pc' := 5) (L' := [some (aR q), some (aI seat), some (aI (-4)), some (aI 0), none]) dX12_loudestAt_4 rfl (by decide) rfl ?_
  refine j_iconst (pc' := 6) dX12_loudestAt_5 rfl ?_
  refine j_istore (pc' := 8) (L' := [some (aR q), some (aI seat), some (aI (-4)), some (aI 0), some (aI 0)]) dX12_loudestAt_6 rfl (by decide) rfl ?_
  have lp8 : ∀ (k9 : Nat) (f : Int) (v : Int) (i : Int), (0 ≤ i ∧ i ≤ n) → ((f, v) = lst D i seat) → (0 ≤ v ∧ v ≤ 21) → ((n - i).toNat) = k9 → J l m_Mod_loudestAt ad G [] false (jZ ad G false 68 m_Mod_loudestAt.2.2.2.2.cells m_Mod_loudestAt.2.2.2.2.slots (rt (some (aI ((lst D n seat).1))) w)) 68 0 0 8 [some (aR q), some (aI seat), some (aI f), some (aI v), some (aI i)] [] w := by
    intro k9
    induction k9 using Nat.strongRecOn with
    | _ k9 ih8 =>
      intro f v i hi hv hvb hk8
      refine j_iload (pc' := 10) (z := i) dX12_loudestAt_8 rfl rfl ?_
      refine j_aload_n (pc' := 11) (z := q) dX12_loudestAt_10 rfl rfl ?_
      refine j_iconst (pc' := 12) dX12_loudestAt_11 rfl ?_
      refine j_iald (pc' := 13) dX12_loudestAt_12 rfl (by omega) hr (by omega) (by decide) ?_
      refine j_top (b := n) hR.pn ?_
      refine j_icmp_ge (tgt := 53) (pc' := 16) dX12_loudestAt_13 (by decide) rfl (by omega) (by omega) (fun h13 => ?_) (fun h13 => ?_)
      · refine j_iload_n (pc' := 54) (z := f) dX12_loudestAt_53 rfl rfl ?_
        exact j_iret dX12_loudestAt_54 rfl (rt_eq (by have e9 : (f, v) = lst D n seat := (by rw [hv, show i = n by omega]); rw [← e9]))
      · refine j_aload_n (pc' := 17) (z := q) dX12_loudestAt_16 rfl rfl ?_
        refine j_iload (pc' := 19) (z := i) dX12_loudestAt_17 rfl rfl ?_
        refine j_iload_n (pc' := 20) (z := seat) dX12_loudestAt_19 rfl rfl ?_
        refine j_aload_n (pc' := 21) (z := q) dX12_loudestAt_20 rfl rfl ?_
        refine j_iconst (pc' := 22) dX12_loudestAt_21 rfl ?_
        refine j_iald (pc' := 23) dX12_loudestAt_22 rfl (by omega) hr (by omega) (by decide) ?_
        refine j_top (b := D 6 0) hR.s0 ?_
        refine j_callS (pc' := 26) (as := [aR q, aI i, aI seat, aI (D 6 0)]) (rest := []) dX12_loudestAt_23 rfl s_Mod_67 (c_Mod_partAt hr (by omega) hR.w hB (by omega) (by omega) (by omega)) rfl rfl rfl (jdet (st' := [aI (snd D i seat (D 6 0))]) rfl ?_)
        have hDi := hD i (by omega) (by omega)
        have hsb := snd_bd (D := D) (p := i) (seat := seat) (pace := D 6 0) hDi.2.1 (by omega)
        refine j_iload_n (pc' := 27) (z := v) dX12_loudestAt_26 rfl rfl ?_
        refine j_icmp_gt (tgt := 33) (pc' := 30) dX12_loudestAt_27 (by decide) rfl (by omega) (by omega) (fun h27 => ?_) (fun h27 => ?_)
        · refine j_iload (pc' := 35) (z := i) dX12_loudestAt_33 rfl rfl ?_
          refine j_istore_n (pc' := 36) (L' := [some (aR q), some (aI seat), some (aI i), some (aI v), some (aI i)]) dX12_loudestAt_35 rfl (by decide) rfl ?_
          refine j_aload_n (pc' := 37) (z := q) dX12_loudestAt_36 rfl rfl ?_
          refine j_iload (pc' := 39) (z := i) dX12_loudestAt_37 rfl rfl ?_
          refine j_iload_n (pc' := 40) (z := seat) dX12_loudestAt_39 rfl rfl ?_
          refine j_aload_n (pc' := 41) (z := q) dX12_loudestAt_40 rfl rfl ?_
          refine j_iconst (pc' := 42) dX12_loudestAt_41 rfl ?_
          refine j_iald (pc' := 43) dX12_loudestAt_42 rfl (by omega) hr (by omega) (by decide) ?_
          refine j_top (b := D 6 0) hR.s0 ?_
          refine j_callS (pc' := 46) (as := [aR q, aI i, aI seat, aI (D 6 0)]) (rest := []) dX12_loudestAt_43 rfl s_Mod_67 (c_Mod_partAt hr (by omega) hR.w hB (by omega) (by omega) (by omega)) rfl rfl rfl (jdet (st' := [aI (snd D i seat (D 6 0))]) rfl ?_)
          refine j_istore_n (pc' := 47) (L' := [some (aR q), some (aI seat), some (aI i), some (aI (snd D i seat (D 6 0))), some (aI i)]) dX12_loudestAt_46 rfl (by decide) rfl ?_
          refine j_iinc (pc' := 50) (z := i) (L' := [some (aR q), some (aI seat), some (aI i), some (aI (snd D i seat (D 6 0))), some (aI (i + 1))]) dX12_loudestAt_47 rfl (by decide) rfl rfl rfl ?_
          refine j_goto (pc' := 8) dX12_loudestAt_50 (by decide) ?_
          exact ih8 _ (by omega) i (snd D i seat (D 6 0)) (i + 1) (by omega) (by unfold lst at hv ⊢; rw [foldI_s (by omega), ← hv]; first | rw [if_pos (by dsimp only; omega)] | rw [if_neg (by dsimp only; omega)]) (by omega) rfl
        · refine j_goto (pc' := 47) dX12_loudestAt_30 (by decide) ?_
          refine j_iinc (pc' := 50) (z := i) (L' := [some (aR q), some (aI seat), some (aI f), some (aI v), some (aI (i + 1))]) dX12_loudestAt_47 rfl (by decide) rfl rfl rfl ?_
          refine j_goto (pc' := 8) dX12_loudestAt_50 (by decide) ?_
          exact ih8 _ (by omega) f v (i + 1) (by omega) (by unfold lst at hv ⊢; rw [foldI_s (by omega), ← hv]; first | rw [if_pos (by dsimp only; omega)] | rw [if_neg (by dsimp only; omega)]) (by omega) rfl
  exact lp8 _ (-4) 0 0 (by omega) (by rfl) (by omega) rfl
