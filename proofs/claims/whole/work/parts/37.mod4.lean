theorem ShRel.keep {sh E : Int → Int → Int} {ke kk kf so si el : Int → Int} {d x k f : Int} (h : ShRel sh E ke kk kf so si el) (ha : keepA d x k f = 0) : ShRel (keepS sh d x k f) E (upi ke d x) (upi kk d k) (upi kf d f) so si el := by
  intro e he
  have hh := h e he
  unfold keepS
  rw [if_pos ha]
  have hx : 0 ≤ x ∧ x ≤ 1 := by unfold keepA at ha; split at ha <;> omega
  by_cases hed : e = d
  · subst hed
    rw [upi_s, upi_s, upi_s]
    by_cases h0 : x = 0
    · rw [if_pos h0]; simp only [shU, if_true]; omega
    · rw [if_neg h0]; simp [shU]; omega
  · rw [upi_n hed, upi_n hed, upi_n hed]
    split <;> simpa [shU, hed] using hh
def zel (el : Int → Int) (a i : Int) : Int → Int := fun x => if a ≤ x ∧ x < a + i then 0 else el x
theorem zel_0 {el : Int → Int} {a : Int} : zel el a 0 = el := by funext x; unfold zel; rw [if_neg (by omega)]
theorem zel_s {el : Int → Int} {a i : Int} (hi : 0 ≤ i) : upi (zel el a i) (a + i) 0 = zel el a (i + 1) := by
  funext x; unfold upi zel
  (repeat' split) <;> first | rfl | (exfalso; omega)
theorem ShRel.row {sh E : Int → Int → Int} {ke kk kf so si el : Int → Int} {d o n : Int} (h : ShRel sh E ke kk kf so si el) (ha : rowA d o n = 0) : ShRel (rowS sh d o n) (rowE E d o n) (upi ke d 2) kk kf (upi so d o) (upi si d n) (zel el (100 * d) 100) := by
  intro e he
  have hh := h e he
  unfold rowS rowE
  rw [if_pos ha, if_pos ha]
  have hd : 0 ≤ d ∧ d ≤ 7 := by unfold rowA at ha; split at ha <;> omega
  by_cases hed : e = d
  · subst hed
    rw [upi_s, upi_s, upi_s]
    simp only [shU, elU, if_true]
    refine ⟨by simp, fun q => ?_, fun _ => ⟨by simp, by simp, fun i hi => ?_⟩⟩
    · simp at q
    · unfold zel zer
      rw [if_pos (by omega), if_pos (by omega)]
  · rw [upi_n hed, upi_n hed, upi_n hed]
    simp only [shU, elU, hed, if_false]
    refine ⟨hh.1, hh.2.1, fun q => ⟨(hh.2.2 q).1, (hh.2.2 q).2.1, fun i hi => ?_⟩⟩
    unfold zel
    rw [if_neg (by omega)]
    exact (hh.2.2 q).2.2 i hi
theorem ShRel.put {sh E : Int → Int → Int} {ke kk kf so si el : Int → Int} {d i v y : Int} (h : ShRel sh E ke kk kf so si el) (hd : (0 ≤ d ∧ d ≤ 7) ∧ 0 ≤ i ∧ i < 100) (ha : putA sh d i = 0) (hy : y = nar (sh 3 d) v) : ShRel sh (putE sh E d i v) ke kk kf so si (upi el (100 * d + i) y) := by
  intro e he
  have hh := h e he
  unfold putE
  rw [if_pos ha]
  refine ⟨hh.1, hh.2.1, fun q => ⟨(hh.2.2 q).1, (hh.2.2 q).2.1, fun j hj => ?_⟩⟩
  by_cases hed : e = d
  · subst hed
    simp only [elU, if_true]
    by_cases hji : j = i
    · subst hji; rw [upi_s, upi_s, hy]
    · rw [upi_n (by omega), upi_n hji]; exact (hh.2.2 q).2.2 j hj
  · simp only [elU, hed, if_false]
    rw [upi_n (by omega)]; exact (hh.2.2 q).2.2 j hj
def cpM (el : Int → Int) (a b lo hi : Int) : Int → Int := fun x => if b + lo ≤ x ∧ x < b + hi then el (x - b + a) else el x
theorem cpM_0 {el : Int → Int} {a b lo hi : Int} (h : hi ≤ lo) : cpM el a b lo hi = el := by funext x; unfold cpM; rw [if_neg (by omega)]
theorem cpM_at {el : Int → Int} {a b lo hi s : Int} (h : ¬ (b + lo ≤ a + s ∧ a + s < b + hi)) : cpM el a b lo hi (a + s) = el (a + s) := by unfold cpM; rw [if_neg h]
theorem cpM_f {el : Int → Int} {a b t : Int} (ht : 0 ≤ t) (h : ¬ (b + 0 ≤ a + t ∧ a + t < b + t)) : upi (cpM el a b 0 t) (b + t) (cpM el a b 0 t (a + t)) = cpM el a b 0 (t + 1) := by
  rw [cpM_at h]
  funext x; unfold upi cpM
  (repeat' split) <;> first | rfl | (exfalso; omega) | (congr 1; omega)
theorem cpM_b {el : Int → Int} {a b n t : Int} (ht : 0 ≤ t) (h : ¬ (b + (n - t) ≤ a + (n - 1 - t) ∧ a + (n - 1 - t) < b + n)) : upi (cpM el a b (n - t) n) (b + (n - 1 - t)) (cpM el a b (n - t) n (a + (n - 1 - t))) = cpM el a b (n - (t + 1)) n := by
  rw [cpM_at h]
  funext x; unfold upi cpM
  (repeat' split) <;> first | rfl | (exfalso; omega) | (congr 1; omega)
theorem ShRel.copy {sh E : Int → Int → Int} {ke kk kf so si el : Int → Int} {d i e j n : Int} (h : ShRel sh E ke kk kf so si el) (hd : (0 ≤ d ∧ d ≤ 7) ∧ (0 ≤ e ∧ e ≤ 7)) (h2 : sh 0 d = 2) (hi : 0 ≤ i ∧ i + n ≤ 100) (hj : 0 ≤ j ∧ j + n ≤ 100) : ShRel sh (elU E e (cpyI (E d) (E e) i j n)) ke kk kf so si (cpM el (100 * d + i) (100 * e + j) 0 n) := by
  intro y hy
  have hh := h y hy
  refine ⟨hh.1, hh.2.1, fun q => ⟨(hh.2.2 q).1, (hh.2.2 q).2.1, fun x hx => ?_⟩⟩
  unfold cpM
  by_cases hye : y = e
  · subst hye
    simp only [elU, if_true]
    unfold cpyI
    by_cases hr : j ≤ x ∧ x < j + n
    · rw [if_pos (by omega), if_pos hr, show 100 * y + x - (100 * y + j) + (100 * d + i) = 100 * d + (i + (x - j)) by omega]
      exact ((h d hd.1).2.2 h2).2.2 _ (by omega)
    · rw [if_neg (by omega), if_neg hr]
      exact (hh.2.2 q).2.2 x hx
  · simp only [elU, hye, if_false]
    rw [if_neg (by omega)]
    exact (hh.2.2 q).2.2 x hx
theorem keep_n {sh : Int → Int → Int} {d x k f : Int} (h : ¬ keepA d x k f = 0) : keepS sh d x k f = sh := if_neg h
theorem row_n1 {sh : Int → Int → Int} {d x k : Int} (h : ¬ rowA d x k = 0) : rowS sh d x k = sh := if_neg h
theorem row_n2 {E : Int → Int → Int} {d x k : Int} (h : ¬ rowA d x k = 0) : rowE E d x k = E := if_neg h
theorem put_n {sh E : Int → Int → Int} {d i v : Int} (h : ¬ putA sh d i = 0) : putE sh E d i v = E := if_neg h
def elT (sh : Int → Int → Int) (d i : Int) : Int := if 0 ≤ d ∧ d ≤ 7 then (if sh 0 d = 2 ∧ 0 ≤ i ∧ i < sh 4 d then 0 else 2) else 1
def elV (sh E : Int → Int → Int) (d i : Int) : Int := if elT sh d i = 0 then E d i else 0
def tossA (sh : Int → Int → Int) (d : Int) : Int := if kinR sh d = 0 then (if sh 1 d = 6 ∨ sh 2 d = 0 then -15 else if sh 1 d = 5 then 200 + price (sh 1 d) (sh 2 d) else if sh 1 d = 2 then 100 + sh 2 d else sh 2 d) else kinR sh d
set_option maxRecDepth 100000 in
set_option maxHeartbeats 4000000 in
theorem c_Mod_keep {l : Launch} {w : AW} {D Di : Int → Int → Int} {n mi hi ni mj : Int} {sh E : Int → Int → Int} {d x k f : Int} (hM : Mod w D n mi hi Di ni mj sh E) (hB : CarOK D n mi) (hI : CarOK Di ni mj) (hhi : hi = 0 ∨ hi = 1) (hsh : ShOK sh E) (hwd : WdOK D) (hd : inI d) (hx : inI x) (hk : inI k) (hf : inI f) : Call l m_Mod_keep false 68 68 [aR 53, aI d, aI x, aI k, aI f] w (jM w (keepA d x k f) D n mi hi Di ni mj (keepS sh d x k f) E) := by
  have hT := MS.rf hM
  have hM0 := hM
  obtain ⟨⟨pc, ra, re, fm, se, th, hO⟩, ⟨S, hS, hR⟩, ⟨Sm, hSm⟩, ⟨Si, hSi, hRi⟩, ⟨Sw, hSw⟩, ⟨nu, hnu⟩, ⟨ha, hha⟩, ⟨fg, hfg⟩, ke, kk, kf, so, si, el, ⟨hke, hkk, hkf, hso, hsi, hel⟩, hRel⟩ := hM
  obtain ⟨hn, hD, hs0, hs1, hs2, hs3⟩ := id hB
  refine Call.of (L := [some (aR 53), some (aI d), some (aI x), some (aI k), some (aI f)]) rfl (Nat.le_of_ble_eq_true rfl) rfl (fun G ad => ?_)
  refine j_iload_n (pc' := 1) (z := d) dX12_keep_0 rfl rfl ?_
  refine j_callS (pc' := 4) (as := [aI d]) (rest := []) dX12_keep_1 rfl s_Mod_144 (c_Mod_isShelf (by omega)) rfl rfl rfl (jdet (st' := [aB (0 ≤ d ∧ d ≤ 7)]) rfl ?_)
  refine j_ifb_eq (tgt := 42) (pc' := 7) dX12_keep_4 (by decide) rfl (fun h4 => ?_) (fun h4 => ?_)
  · refine j_iconst (pc' := 43) dX12_keep_42 rfl ?_
    exact j_iret dX12_keep_43 rfl (jM_of (by unfold keepA; (repeat' split) <;> first | rfl | omega) (by rw [keep_n (by unfold keepA; rw [if_neg (by omega)]; omega)]; exact hT))
  · refine j_iload_n (pc' := 8) (z := x) dX12_keep_7 rfl rfl ?_
    refine j_iconst (pc' := 9) dX12_keep_8 rfl ?_
    refine j_iconst (pc' := 10) dX12_keep_9 rfl ?_
    refine j_callS (pc' := 13) (as := [aI x, aI 0, aI 1]) (rest := []) dX12_keep_10 rfl s_Mod_49 (c_Mod_isIn (by omega) (by omega) (by omega)) rfl rfl rfl (jdet (st' := [aB (0 ≤ x ∧ x ≤ 1)]) rfl ?_)
    refine j_ifb_eq (tgt := 42) (pc' := 16) dX12_keep_13 (by decide) rfl (fun h13 => ?_) (fun h13 => ?_)
    · refine j_iconst (pc' := 43) dX12_keep_42 rfl ?_
      exact j_iret dX12_keep_43 rfl (jM_of (by unfold keepA; (repeat' split) <;> first | rfl | omega) (by rw [keep_n (by unfold keepA; rw [if_neg (by omega)]; omega)]; exact hT))
    · refine j_iload_n (pc' := 17) (z := x) dX12_keep_16 rfl rfl ?_
      refine j_iconst (pc' := 18) dX12_keep_17 rfl ?_
      refine j_icmp_ne (tgt := 44) (pc' := 21) dX12_keep_18 (by decide) rfl (by omega) (by omega) (fun h18 => ?_) (fun h18 => ?_)
      · refine j_aload_n (pc' := 45) (z := 53) dX12_keep_44 rfl rfl ?_
        refine j_get (pc' := 48) (v := aR 61) dX12_keep_45 rfl f_Mod_31 (by omega) hO rfl ?_
        refine j_iload_n (pc' := 49) (z := d) dX12_keep_48 rfl rfl ?_
        refine j_iload_n (pc' := 50) (z := x) dX12_keep_49 rfl rfl ?_
        refine j_iast (pc' := 51) dX12_keep_50 rfl (by omega) hke (by omega) (by decide) ?_
        refine j_aload_n (pc' := 52) (z := 53) dX12_keep_51 rfl rfl ?_
        refine j_get (pc' := 55) (v := aR 62) dX12_keep_52 rfl f_Mod_34 (by omega) ((up_n (by omega)).trans hO) rfl ?_
        refine j_iload_n (pc' := 56) (z := d) dX12_keep_55 rfl rfl ?_
        refine j_iload_n (pc' := 57) (z := k) dX12_keep_56 rfl rfl ?_
        refine j_iast (pc' := 58) dX12_keep_57 rfl (by omega) ((up_n (by omega)).trans hkk) (by omega) (by decide) ?_
        refine j_aload_n (pc' := 59) (z := 53) dX12_keep_58 rfl rfl ?_
        refine j_get (pc' := 62) (v := aR 63) dX12_keep_59 rfl f_Mod_37 (by omega) ((up_n (by omega)).trans ((up_n (by omega)).trans hO)) rfl ?_
        refine j_iload_n (pc' := 63) (z := d) dX12_keep_62 rfl rfl ?_
        refine j_iload (pc' := 65) (z := f) dX12_keep_63 rfl rfl ?_
        refine j_iast (pc' := 66) dX12_keep_65 rfl (by omega) ((up_n (by omega)).trans ((up_n (by omega)).trans hkf)) (by omega) (by decide) ?_
        refine j_iconst (pc' := 67) dX12_keep_66 rfl ?_
        exact j_iret dX12_keep_67 rfl (jM_of (by unfold keepA; (repeat' split) <;> first | rfl | omega) (hT.she ⟨((up_n (by omega)).trans ((up_n (by omega)).trans up_s)), ((up_n (by omega)).trans up_s), up_s, ((up_n (by omega)).trans ((up_n (by omega)).trans ((up_n (by omega)).trans hso))), ((up_n (by omega)).trans ((up_n (by omega)).trans ((up_n (by omega)).trans hsi))), ((up_n (by omega)).trans ((up_n (by omega)).trans ((up_n (by omega)).trans hel)))⟩ (hRel.keep (by unfold keepA; rw [if_pos (by omega)])) (fun j9 hj9 => by simp only [up]; (repeat' split) <;> first | rfl | (exfalso; omega))))
      · refine j_iload_n (pc' := 22) (z := k) dX12_keep_21 rfl rfl ?_
        refine j_iconst (pc' := 23) dX12_keep_22 rfl ?_
        refine j_bipush (pc' := 25) dX12_keep_23 rfl (by decide) ?_
        refine j_callS (pc' := 28) (as := [aI k, aI 0, aI 7]) (rest := []) dX12_keep_25 rfl s_Mod_49 (c_Mod_isIn (by omega) (by omega) (by omega)) rfl rfl rfl (jdet (st' := [aB (0 ≤ k ∧ k ≤ 7)]) rfl ?_)
        refine j_ifb_eq (tgt := 42) (pc' := 31) dX12_keep_28 (by decide) rfl (fun h28 => ?_) (fun h28 => ?_)
        · refine j_iconst (pc' := 43) dX12_keep_42 rfl ?_
          exact j_iret dX12_keep_43 rfl (jM_of (by unfold keepA; (repeat' split) <;> first | rfl | omega) (by rw [keep_n (by unfold keepA; rw [if_neg (by omega)]; omega)]; exact hT))
        · refine j_iload (pc' := 33) (z := f) dX12_keep_31 rfl rfl ?_
          refine j_iconst (pc' := 34) dX12_keep_33 rfl ?_
          refine j_bipush (pc' := 36) dX12_keep_34 rfl (by decide) ?_
          refine j_callS (pc' := 39) (as := [aI f, aI 0, aI 9]) (rest := []) dX12_keep_36 rfl s_Mod_49 (c_Mod_isIn (by omega) (by omega) (by omega)) rfl rfl rfl (jdet (st' := [aB (0 ≤ f ∧ f ≤ 9)]) rfl ?_)
          refine j_ifb_ne (tgt := 44) (pc' := 42) dX12_keep_39 (by decide) rfl (fun h39 => ?_) (fun h39 => ?_)
          · refine j_aload_n (pc' := 45) (z := 53) dX12_keep_44 rfl rfl ?_
            refine j_get (pc' := 48) (v := aR 61) dX12_keep_45 rfl f_Mod_31 (by omega) hO rfl ?_
            refine j_iload_n (pc' := 49) (z := d) dX12_keep_48 rfl rfl ?_
            refine j_iload_n (pc' := 50) (z := x) dX12_keep_49 rfl rfl ?_
            refine j_iast (pc' := 51) dX12_keep_50 rfl (by omega) hke (by omega) (by decide) ?_
            refine j_aload_n (pc' := 52) (z := 53) dX12_keep_51 rfl rfl ?_
            refine j_get (pc' := 55) (v := aR 62) dX12_keep_52 rfl f_Mod_34 (by omega) ((up_n (by omega)).trans hO) rfl ?_
            refine j_iload_n (pc' := 56) (z := d) dX12_keep_55 rfl rfl ?_
            refine j_iload_n (pc' := 57) (z := k) dX12_keep_56 rfl rfl ?_
            refine j_iast (pc' := 58) dX12_keep_57 rfl (by omega) ((up_n (by omega)).trans hkk) (by omega) (by decide) ?_
            refine j_aload_n (pc' := 59) (z := 53) dX12_keep_58 rfl rfl ?_
            refine j_get (pc' := 62) (v := aR 63) dX12_keep_59 rfl f_Mod_37 (by omega) ((up_n (by omega)).trans ((up_n (by omega)).trans hO)) rfl ?_
            refine j_iload_n (pc' := 63) (z := d) dX12_keep_62 rfl rfl ?_
            refine j_iload (pc' := 65) (z := f) dX12_keep_63 rfl rfl ?_
            refine j_iast (pc' := 66) dX12_keep_65 rfl (by omega) ((up_n (by omega)).trans ((up_n (by omega)).trans hkf)) (by omega) (by decide) ?_
            refine j_iconst (pc' := 67) dX12_keep_66 rfl ?_
            exact j_iret dX12_keep_67 rfl (jM_of (by unfold keepA; (repeat' split) <;> first | rfl | omega) (hT.she ⟨((up_n (by omega)).trans ((up_n (by omega)).trans up_s)), ((up_n (by omega)).trans up_s), up_s, ((up_n (by omega)).trans ((up_n (by omega)).trans ((up_n (by omega)).trans hso))), ((up_n (by omega)).trans ((up_n (by omega)).trans ((up_n (by omega)).trans hsi))), ((up_n (by omega)).trans ((up_n (by omega)).trans ((up_n (by omega)).trans hel)))⟩ (hRel.keep (by unfold keepA; rw [if_pos (by omega)])) (fun j9 hj9 => by simp only [up]; (repeat' split) <;> first | rfl | (exfalso; omega))))
          · refine j_iconst (pc' := 43) dX12_keep_42 rfl ?_
            exact j_iret dX12_keep_43 rfl (jM_of (by unfold keepA; (repeat' split) <;> first | rfl | omega) (by rw [keep_n (by unfold keepA; rw [if_neg (by omega)]; omega)]; exact hT))
set_option maxRecDepth 100000 in
set_option maxHeartbeats 4000000 in
theorem c_Mod_row {l : Launch} {w : AW} {D Di : Int → Int → Int} {n mi hi ni mj : Int} {sh E : Int → Int → Int} {d x k : Int} (hM : Mod w D n mi hi Di ni mj sh E) (hB : CarOK D n mi) (hI : CarOK Di ni mj) (hhi : hi = 0 ∨ hi = 1) (hsh : ShOK sh E) (hwd : WdOK D) (hd : inI d) (hx : inI x) (hk : inI k) : Call l m_Mod_row false 68 68 [aR 53, aI d, aI x, aI k] w (jM w (rowA d x k) D n mi hi Di ni mj (rowS sh d x k) (rowE E d x k)) := by
  have hT := MS.rf hM
  have hM0 := hM
  obtain ⟨⟨pc, ra, re, fm, se, th, hO⟩, ⟨S, hS, hR⟩, ⟨Sm, hSm⟩, ⟨Si, hSi, hRi⟩, ⟨Sw, hSw⟩, ⟨nu, hnu⟩, ⟨ha, hha⟩, ⟨fg, hfg⟩, ke, kk, kf, so, si, el, ⟨hke, hkk, hkf, hso, hsi, hel⟩, hRel⟩ := hM
  obtain ⟨hn, hD, hs0, hs1, hs2, hs3⟩ := id hB
  refine Call.of (L := [some (aR 53), some (aI d), some (aI x), some (aI k), none]) rfl (Nat.le_of_ble_eq_true rfl) rfl (fun G ad => ?_)
  refine j_iload_n (pc' := 1) (z := d) dX12_row_0 rfl rfl ?_
  refine j_callS (pc' := 4) (as := [aI d]) (rest := []) dX12_row_1 rfl s_Mod_144 (c_Mod_isShelf (by omega)) rfl rfl rfl (jdet (st' := [aB (0 ≤ d ∧ d ≤ 7)]) rfl ?_)
  refine j_ifb_eq (tgt := 22) (pc' := 7) dX12_row_4 (by decide) rfl (fun h4 => ?_) (fun h4 => ?_)
  · refine j_iconst (pc' := 23) dX12_row_22 rfl ?_
    exact j_iret dX12_row_23 rfl (jM_of (by unfold rowA; (repeat' split) <;> first | rfl | omega) (by have h8 : ¬ rowA d x k = 0 := (by unfold rowA; rw [if_neg (by omega)]; omega); rw [row_n1 h8, row_n2 h8]; exact hT))
  · refine j_iload_n (pc' := 8) (z := x) dX12_row_7 rfl rfl ?_
    refine j_iconst (pc' := 9) dX12_row_8 rfl ?_
    refine j_iconst (pc' := 10) dX12_row_9 rfl ?_
    refine j_callS (pc' := 13) (as := [aI x, aI 0, aI 2]) (rest := []) dX12_row_10 rfl s_Mod_49 (c_Mod_isIn (by omega) (by omega) (by omega)) rfl rfl rfl (jdet (st' := [aB (0 ≤ x ∧ x ≤ 2)]) rfl ?_)
    refine j_ifb_eq (tgt := 22) (pc' := 16) dX12_row_13 (by decide) rfl (fun h13 => ?_) (fun h13 => ?_)
    · refine j_iconst (pc' := 23) dX12_row_22 rfl ?_
      exact j_iret dX12_row_23 rfl (jM_of (by unfold rowA; (repeat' split) <;> first | rfl | omega) (by have h8 : ¬ rowA d x k = 0 := (by unfold rowA; rw [if_neg (by omega)]; omega); rw [row_n1 h8, row_n2 h8]; exact hT))
    · refine j_iload_n (pc' := 17) (z := k) dX12_row_16 rfl rfl ?_
      refine j_bipush (pc' := 19) dX12_row_17 rfl (by decide) ?_
      refine j_icmp_le (tgt := 24) (pc' := 22) dX12_row_19 (by decide) rfl (by omega) (by omega) (fun h19 => ?_) (fun h19 => ?_)
      · refine j_iload_n (pc' := 25) (z := k) dX12_row_24 rfl rfl ?_
        refine j_if_ge (tgt := 31) (pc' := 28) dX12_row_25 (by decide) rfl (by omega) (fun h25 => ?_) (fun h25 => ?_)
        · refine j_aload_n (pc' := 32) (z := 53) dX12_row_31 rfl rfl ?_
          refine j_get (pc' := 35) (v := aR 61) dX12_row_32 rfl f_Mod_31 (by omega) hO rfl ?_
          refine j_iload_n (pc' := 36) (z := d) dX12_row_35 rfl rfl ?_
          refine j_iconst (pc' := 37) dX12_row_36 rfl ?_
          refine j_iast (pc' := 38) dX12_row_37 rfl (by omega) hke (by omega) (by decide) ?_
          refine j_aload_n (pc' := 39) (z := 53) dX12_row_38 rfl rfl ?_
          refine j_get (pc' := 42) (v := aR 64) dX12_row_39 rfl f_Mod_40 (by omega) ((up_n (by omega)).trans hO) rfl ?_
          refine j_iload_n (pc' := 43) (z := d) dX12_row_42 rfl rfl ?_
          refine j_iload_n (pc' := 44) (z := x) dX12_row_43 rfl rfl ?_
          refine j_iast (pc' := 45) dX12_row_44 rfl (by omega) ((up_n (by omega)).trans hso) (by omega) (by decide) ?_
          refine j_aload_n (pc' := 46) (z := 53) dX12_row_45 rfl rfl ?_
          refine j_get (pc' := 49) (v := aR 65) dX12_row_46 rfl f_Mod_43 (by omega) ((up_n (by omega)).trans ((up_n (by omega)).trans hO)) rfl ?_
          refine j_iload_n (pc' := 50) (z := d) dX12_row_49 rfl rfl ?_
          refine j_iload_n (pc' := 51) (z := k) dX12_row_50 rfl rfl ?_
          refine j_iast (pc' := 52) dX12_row_51 rfl (by omega) ((up_n (by omega)).trans ((up_n (by omega)).trans hsi)) (by omega) (by decide) ?_
          refine j_iconst (pc' := 53) dX12_row_52 rfl ?_
          refine j_istore (pc' := 55) (L' := [some (aR 53), some (aI d), some (aI x), some (aI k), some (aI 0)]) dX12_row_53 rfl (by decide) rfl ?_
          have lp55 : ∀ (k9 : Nat) (i : Int), (0 ≤ i ∧ i ≤ 100) → ((100 - i).toNat) = k9 → J l m_Mod_row ad G [] false (jZ ad G false 68 m_Mod_row.2.2.2.2.cells m_Mod_row.2.2.2.2.slots (jM w (rowA d x k) D n mi hi Di ni mj (rowS sh d x k) (rowE E d x k))) 68 0 0 55 [some (aR 53), some (aI d), some (aI x), some (aI k), some (aI i)] [] (up (up (up (up w 61 (eI 8 (upi ke d 2))) 64 (eI 8 (upi so d x))) 65 (eI 8 (upi si d k))) 66 (eI 800 (zel el (100 * d) i))) := by
            intro k9
            induction k9 using Nat.strongRecOn with
            | _ k9 ih55 =>
              intro i hi9 hk55
              refine j_iload (pc' := 57) (z := i) dX12_row_55 rfl rfl ?_
              refine j_bipush (pc' := 59) dX12_row_57 rfl (by decide) ?_
              refine j_icmp_ge (tgt := 81) (pc' := 62) dX12_row_59 (by decide) rfl (by omega) (by omega) (fun h59 => ?_) (fun h59 => ?_)
              · refine j_iconst (pc' := 82) dX12_row_81 rfl ?_
                exact j_iret dX12_row_82 rfl (jM_of (by unfold rowA; (repeat' split) <;> first | rfl | omega) (hT.she ⟨((up_n (by omega)).trans ((up_n (by omega)).trans ((up_n (by omega)).trans up_s))), ((up_n (by omega)).trans ((up_n (by omega)).trans ((up_n (by omega)).trans ((up_n (by omega)).trans hkk)))), ((up_n (by omega)).trans ((up_n (by omega)).trans ((up_n (by omega)).trans ((up_n (by omega)).trans hkf)))), ((up_n (by omega)).trans ((up_n (by omega)).trans up_s)), ((up_n (by omega)).trans up_s), up_s⟩ (by have e9 : i = 100 := (by omega); subst e9; exact hRel.row (by unfold rowA; rw [if_pos (by omega), if_neg (by omega)])) (fun j9 hj9 => by simp only [up]; (repeat' split) <;> first | rfl | (exfalso; omega))))
              · refine j_aload_n (pc' := 63) (z := 53) dX12_row_62 rfl rfl ?_
                refine j_get (pc' := 66) (v := aR 66) dX12_row_63 rfl f_Mod_46 (by omega) ((up_n (by omega)).trans ((up_n (by omega)).trans ((up_n (by omega)).trans ((up_n (by omega)).trans hO)))) rfl ?_
                refine j_bipush (pc' := 68) dX12_row_66 rfl (by decide) ?_
                refine j_iload_n (pc' := 69) (z := d) dX12_row_68 rfl rfl ?_
                refine j_imul (pc' := 70) dX12_row_69 rfl ?_
                refine j_iload (pc' := 72) (z := i) dX12_row_70 rfl rfl ?_
                refine j_iadd (pc' := 73) dX12_row_72 rfl ?_
                refine j_iconst (pc' := 74) dX12_row_73 rfl ?_
                refine j_iast (pc' := 75) dX12_row_74 rfl (by omega) up_s (by omega) (by decide) ?_
                refine j_w (w' := up (up (up (up w 61 (eI 8 (upi ke d 2))) 64 (eI 8 (upi so d x))) 65 (eI 8 (upi si d k))) 66 (eI 800 (upi (zel el (100 * d) i) ((100 * d) + i) 0))) (by funext j9; simp only [up]; (repeat' split) <;> first | rfl | (exfalso; omega)) ?_
                refine j_iinc (pc' := 78) (z := i) (L' := [some (aR 53), some (aI d), some (aI x), some (aI k), some (aI (i + 1))]) dX12_row_75 rfl (by decide) rfl rfl rfl ?_
                refine j_goto (pc' := 55) dX12_row_78 (by decide) ?_
                refine j_w (w' := up (up (up (up w 61 (eI 8 (upi ke d 2))) 64 (eI 8 (upi so d x))) 65 (eI 8 (upi si d k))) 66 (eI 800 (zel el (100 * d) (i + 1)))) (by first | rw [zel_s (by omega)] | (rw [zel_0]; funext j9; simp only [up]; (repeat' split) <;> first | (subst_vars; exact hel) | rfl | (exfalso; omega))) ?_
                exact ih55 _ (by omega) (i + 1) (by omega) rfl
          refine j_w (w' := up (up (up (up w 61 (eI 8 (upi ke d 2))) 64 (eI 8 (upi so d x))) 65 (eI 8 (upi si d k))) 66 (eI 800 (zel el (100 * d) 0))) (by first | rw [zel_s (by omega)] | (rw [zel_0]; funext j9; simp only [up]; (repeat' split) <;> first | (subst_vars; exact hel) | rfl | (exfalso; omega))) ?_
          exact lp55 _ 0 (by omega) rfl
        · refine j_bipush (pc' := 30) dX12_row_28 rfl (by decide) ?_
          exact j_iret dX12_row_30 rfl (jM_of (by unfold rowA; (repeat' split) <;> first | rfl | omega) (by have h8 : ¬ rowA d x k = 0 := (by unfold rowA; rw [if_pos (by omega), if_pos (by omega)]; omega); rw [row_n1 h8, row_n2 h8]; exact hT))
      · refine j_iconst (pc' := 23) dX12_row_22 rfl ?_
        exact j_iret dX12_row_23 rfl (jM_of (by unfold rowA; (repeat' split) <;> first | rfl | omega) (by have h8 : ¬ rowA d x k = 0 := (by unfold rowA; rw [if_neg (by omega)]; omega); rw [row_n1 h8, row_n2 h8]; exact hT))
set_option maxRecDepth 100000 in
set_option maxHeartbeats 4000000 in
theorem c_Mod_put {l : Launch} {w : AW} {D Di : Int → Int → Int} {n mi hi ni mj : Int} {sh E : Int → Int → Int} {d i v : Int} (hM : Mod w D n mi hi Di ni mj sh E) (hB : CarOK D n mi) (hI : CarOK Di ni mj) (hhi : hi = 0 ∨ hi = 1) (hsh : ShOK sh E) (hwd : WdOK D) (hd : inI d) (hi9 : inI i) (hv : inI v) : Call l m_Mod_put false 68 68 [aR 53, aI d, aI i, aI v] w (jM w (putA sh d i) D n mi hi Di ni mj sh (putE sh E d i v)) := by
  have hT := MS.rf hM
  have hM0 := hM
  obtain ⟨⟨pc, ra, re, fm, se, th, hO⟩, ⟨S, hS, hR⟩, ⟨Sm, hSm⟩, ⟨Si, hSi, hRi⟩, ⟨Sw, hSw⟩, ⟨nu, hnu⟩, ⟨ha, hha⟩, ⟨fg, hfg⟩, ke, kk, kf, so, si, el, ⟨hke, hkk, hkf, hso, hsi, hel⟩, hRel⟩ := hM
  obtain ⟨hn, hD, hs0, hs1, hs2, hs3⟩ := id hB
  refine Call.of (L := [some (aR 53), some (aI d), some (aI i), some (aI v), none]) rfl (Nat.le_of_ble_eq_true rfl) rfl (fun G ad => ?_)
  refine j_aload_n (pc' := 1) (z := 53) dX12_put_0 rfl rfl ?_
  refine j_iload_n (pc' := 2) (z := d) dX12_put_1 rfl rfl ?_
  refine j_iconst (pc' := 3) dX12_put_2 rfl ?_
  refine j_callV (pc' := 6) (as := [aI d, aI (-1)]) (rest := []) dX12_put_3 rfl s_Mod_127 (c_Mod_wrongRowN hT.1 hB hsh (by omega)) (by omega) hO rfl rfl rfl rfl (jdet (st' := [aI (rowR sh d)]) rfl ?_)
  refine j_istore (pc' := 8) (L' := [some (aR 53), some (aI d), some (aI i), some (aI v), some (aI (rowR sh d))]) dX12_put_6 rfl (by decide) rfl ?_
  have hrb := rowR_bd (sh := sh) (d := d)
  refine j_iload (pc' := 10) (z := (rowR sh d)) dX12_put_8 rfl rfl ?_
  refine j_if_eq (tgt := 16) (pc' := 13) dX12_put_10 (by decide) rfl (by omega) (fun h10 => ?_) (fun h10 => ?_)
  · obtain ⟨hd7, hct⟩ := rowR_0 h10
    obtain ⟨q1, q2, q3, q4, q5, q6⟩ := id (hsh d (by omega))
    refine j_iload_n (pc' := 17) (z := i) dX12_put_16 rfl rfl ?_
    refine j_iconst (pc' := 18) dX12_put_17 rfl ?_
    refine j_aload_n (pc' := 19) (z := 53) dX12_put_18 rfl rfl ?_
    refine j_get (pc' := 22) (v := aR 65) dX12_put_19 rfl f_Mod_43 (by omega) hO rfl ?_
    refine j_iload_n (pc' := 23) (z := d) dX12_put_22 rfl rfl ?_
    refine j_iald (pc' := 24) dX12_put_23 rfl (by omega) hsi (by omega) (by decide) ?_
    refine j_top (b := sh 4 d) ((hRel d (by omega)).2.2 (by omega)).2.1 ?_
    refine j_iconst (pc' := 25) dX12_put_24 rfl ?_
    refine j_isub (pc' := 26) dX12_put_25 rfl ?_
    refine j_callS (pc' := 29) (as := [aI i, aI 0, aI ((sh 4 d) - 1)]) (rest := []) dX12_put_26 rfl s_Mod_49 (c_Mod_isIn (by omega) (by omega) (by omega)) rfl rfl rfl (jdet (st' := [aB (0 ≤ i ∧ i ≤ (sh 4 d) - 1)]) rfl ?_)
    refine j_ifb_ne (tgt := 35) (pc' := 32) dX12_put_29 (by decide) rfl (fun h29 => ?_) (fun h29 => ?_)
    · refine j_aload_n (pc' := 36) (z := 53) dX12_put_35 rfl rfl ?_
      refine j_get (pc' := 39) (v := aR 66) dX12_put_36 rfl f_Mod_46 (by omega) hO rfl ?_
      refine j_bipush (pc' := 41) dX12_put_39 rfl (by decide) ?_
      refine j_iload_n (pc' := 42) (z := d) dX12_put_41 rfl rfl ?_
      refine j_imul (pc' := 43) dX12_put_42 rfl ?_
      refine j_iload_n (pc' := 44) (z := i) dX12_put_43 rfl rfl ?_
      refine j_iadd (pc' := 45) dX12_put_44 rfl ?_
      refine j_aload_n (pc' := 46) (z := 53) dX12_put_45 rfl rfl ?_
      refine j_get (pc' := 49) (v := aR 64) dX12_put_46 rfl f_Mod_40 (by omega) hO rfl ?_
      refine j_iload_n (pc' := 50) (z := d) dX12_put_49 rfl rfl ?_
      refine j_iald (pc' := 51) dX12_put_50 rfl (by omega) hso (by omega) (by decide) ?_
      refine j_top (b := sh 3 d) ((hRel d (by omega)).2.2 (by omega)).1 ?_
      refine j_if_ne (tgt := 59) (pc' := 54) dX12_put_51 (by decide) rfl (by omega) (fun h51 => ?_) (fun h51 => ?_)
      · refine j_aload_n (pc' := 60) (z := 53) dX12_put_59 rfl rfl ?_
        refine j_get (pc' := 63) (v := aR 64) dX12_put_60 rfl f_Mod_40 (by omega) hO rfl ?_
        refine j_iload_n (pc' := 64) (z := d) dX12_put_63 rfl rfl ?_
        refine j_iald (pc' := 65) dX12_put_64 rfl (by omega) hso (by omega) (by decide) ?_
        refine j_top (b := sh 3 d) ((hRel d (by omega)).2.2 (by omega)).1 ?_
        refine j_iconst (pc' := 66) dX12_put_65 rfl ?_
        refine j_icmp_ne (tgt := 74) (pc' := 69) dX12_put_66 (by decide) rfl (by omega) (by omega) (fun h66 => ?_) (fun h66 => ?_)
        · refine j_iload_n (pc' := 75) (z := v) dX12_put_74 rfl rfl ?_
          refine j_iast (pc' := 76) dX12_put_75 rfl (by omega) hel (by omega) (by decide) ?_
          refine j_iconst (pc' := 77) dX12_put_76 rfl ?_
          exact j_iret dX12_put_77 rfl (jM_of (by unfold putA; (repeat' split) <;> first | rfl | omega) (hT.she ⟨((up_n (by omega)).trans hke), ((up_n (by omega)).trans hkk), ((up_n (by omega)).trans hkf), ((up_n (by omega)).trans hso), ((up_n (by omega)).trans hsi), up_s⟩ (hRel.put (by omega) (by unfold putA; rw [if_pos h10, if_pos (by omega)]) (by unfold nar; (repeat' split) <;> first | rfl | (exfalso; omega))) (fun j9 hj9 => by simp only [up]; (repeat' split) <;> first | rfl | (exfalso; omega))))
        · refine j_iload_n (pc' := 70) (z := v) dX12_put_69 rfl rfl ?_
          refine j_i2s (pc' := 71) dX12_put_70 rfl ?_
          refine j_goto (pc' := 75) dX12_put_71 (by decide) ?_
          refine j_iast (pc' := 76) dX12_put_75 rfl (by omega) hel (by omega) (by decide) ?_
          refine j_iconst (pc' := 77) dX12_put_76 rfl ?_
          exact j_iret dX12_put_77 rfl (jM_of (by unfold putA; (repeat' split) <;> first | rfl | omega) (hT.she ⟨((up_n (by omega)).trans hke), ((up_n (by omega)).trans hkk), ((up_n (by omega)).trans hkf), ((up_n (by omega)).trans hso), ((up_n (by omega)).trans hsi), up_s⟩ (hRel.put (by omega) (by unfold putA; rw [if_pos h10, if_pos (by omega)]) (by unfold nar; (repeat' split) <;> first | rfl | (exfalso; omega))) (fun j9 hj9 => by simp only [up]; (repeat' split) <;> first | rfl | (exfalso; omega))))
      · refine j_iload_n (pc' := 55) (z := v) dX12_put_54 rfl rfl ?_
        refine j_i2b (pc' := 56) dX12_put_55 rfl ?_
        refine j_goto (pc' := 75) dX12_put_56 (by decide) ?_
        refine j_iast (pc' := 76) dX12_put_75 rfl (by omega) hel (by omega) (by decide) ?_
        refine j_iconst (pc' := 77) dX12_put_76 rfl ?_
        exact j_iret dX12_put_77 rfl (jM_of (by unfold putA; (repeat' split) <;> first | rfl | omega) (hT.she ⟨((up_n (by omega)).trans hke), ((up_n (by omega)).trans hkk), ((up_n (by omega)).trans hkf), ((up_n (by omega)).trans hso), ((up_n (by omega)).trans hsi), up_s⟩ (hRel.put (by omega) (by unfold putA; rw [if_pos h10, if_pos (by omega)]) (by unfold nar; (repeat' split) <;> first | rfl | (exfalso; omega))) (fun j9 hj9 => by simp only [up]; (repeat' split) <;> first | rfl | (exfalso; omega))))
    · refine j_bipush (pc' := 34) dX12_put_32 rfl (by decide) ?_
      exact j_iret dX12_put_34 rfl (jM_of (by unfold putA; (repeat' split) <;> first | rfl | omega) (by rw [put_n (by unfold putA; rw [if_pos h10, if_neg (by omega)]; omega)]; exact hT))
  · refine j_iload (pc' := 15) (z := (rowR sh d)) dX12_put_13 rfl rfl ?_
    exact j_iret dX12_put_15 rfl (jM_of (by unfold putA; (repeat' split) <;> first | rfl | omega) (by rw [put_n (by unfold putA; rw [if_neg h10]; exact h10)]; exact hT))
set_option maxRecDepth 100000 in
set_option maxHeartbeats 4000000 in
theorem c_Mod_element {l : Launch} {w : AW} {D Di : Int → Int → Int} {n mi hi ni mj : Int} {sh E : Int → Int → Int} {d i : Int} (hM : Mod w D n mi hi Di ni mj sh E) (hB : CarOK D n mi) (hI : CarOK Di ni mj) (hhi : hi = 0 ∨ hi = 1) (hsh : ShOK sh E) (hwd : WdOK D) (hd : inI d) (hi9 : inI i) : Call l m_Mod_element false 68 68 [aR 53, aI d, aI i] w (fun r w9 => r = some (aL (elV sh E d i)) ∧ MS w w9 D n mi hi Di ni mj sh E ∧ ∃ pc ra re fm se, w9 53 = mOb hi pc ra re fm se (elT sh d i)) := by
  have hT := MS.rf hM
  have hM0 := hM
  obtain ⟨⟨pc, ra, re, fm, se, th, hO⟩, ⟨S, hS, hR⟩, ⟨Sm, hSm⟩, ⟨Si, hSi, hRi⟩, ⟨Sw, hSw⟩, ⟨nu, hnu⟩, ⟨ha, hha⟩, ⟨fg, hfg⟩, ke, kk, kf, so, si, el, ⟨hke, hkk, hkf, hso, hsi, hel⟩, hRel⟩ := hM
  obtain ⟨hn, hD, hs0, hs1, hs2, hs3⟩ := id hB
  refine Call.of (L := [some (aR 53), some (aI d), some (aI i)]) rfl (Nat.le_of_ble_eq_true rfl) rfl (fun G ad => ?_)
  refine j_aload_n (pc' := 1) (z := 53) dX12_element_0 rfl rfl ?_
  refine j_iload_n (pc' := 2) (z := d) dX12_element_1 rfl rfl ?_
  refine j_callS (pc' := 5) (as := [aI d]) (rest := [aR 53]) dX12_element_2 rfl s_Mod_144 (c_Mod_isShelf (by omega)) rfl rfl rfl (jdet (st' := [aB (0 ≤ d ∧ d ≤ 7), aR 53]) rfl ?_)
  refine j_ifb_ne (tgt := 12) (pc' := 8) dX12_element_5 (by decide) rfl (fun h5 => ?_) (fun h5 => ?_)
  · obtain ⟨q1, q2, q3, q4, q5, q6⟩ := id (hsh d (by omega))
    refine j_aload_n (pc' := 13) (z := 53) dX12_element_12 rfl rfl ?_
    refine j_get (pc' := 16) (v := aR 61) dX12_element_13 rfl f_Mod_31 (by omega) hO rfl ?_
    refine j_iload_n (pc' := 17) (z := d) dX12_element_16 rfl rfl ?_
    refine j_iald (pc' := 18) dX12_element_17 rfl (by omega) hke (by omega) (by decide) ?_
    refine j_top (b := sh 0 d) (hRel d (by omega)).1 ?_
    refine j_iconst (pc' := 19) dX12_element_18 rfl ?_
    refine j_icmp_ne (tgt := 38) (pc' := 22) dX12_element_19 (by decide) rfl (by omega) (by omega) (fun h19 => ?_) (fun h19 => ?_)
    · refine j_iconst (pc' := 39) dX12_element_38 rfl ?_
      refine j_goto (pc' := 43) dX12_element_39 (by decide) ?_
      refine j_putI (pc' := 46) dX12_element_43 rfl p_Mod_231 (by omega) hO (Nat.le_of_ble_eq_true rfl) ?_
      refine j_w (w' := up w 53 (eO 11 [aR 54, aR 55, aR 56, aR 57, aI hi, aI pc, aI ra, aI re, aR 58, aR 59, aR 60, aI fm, aI se, aR 61, aR 62, aR 63, aR 64, aR 65, aR 66, aI 2])) rfl ?_
      refine j_aload_n (pc' := 47) (z := 53) dX12_element_46 rfl rfl ?_
      refine j_get (pc' := 50) (v := aI 2) dX12_element_47 rfl f_Mod_231 (by omega) up_s rfl ?_
      refine j_if_ne (tgt := 68) (pc' := 53) dX12_element_50 (by decide) rfl (by omega) (fun h50 => ?_) (fun h50 => ?_)
      · refine j_lconst (pc' := 69) (z := 0) dX12_element_68 rfl rfl ?_
        have e9 : elT sh d i = 2 := by unfold elT; (repeat' split) <;> first | rfl | (exfalso; omega)
        exact j_lret dX12_element_69 rfl ⟨by unfold elV; rw [e9]; rfl, hT.ob, ⟨_, _, _, _, _, by rw [e9]; exact up_s⟩⟩
      · exact absurd h50 (by decide)
    · refine j_iload_n (pc' := 23) (z := i) dX12_element_22 rfl rfl ?_
      refine j_iconst (pc' := 24) dX12_element_23 rfl ?_
      refine j_aload_n (pc' := 25) (z := 53) dX12_element_24 rfl rfl ?_
      refine j_get (pc' := 28) (v := aR 65) dX12_element_25 rfl f_Mod_43 (by omega) hO rfl ?_
      refine j_iload_n (pc' := 29) (z := d) dX12_element_28 rfl rfl ?_
      refine j_iald (pc' := 30) dX12_element_29 rfl (by omega) hsi (by omega) (by decide) ?_
      refine j_top (b := sh 4 d) ((hRel d (by omega)).2.2 (by omega)).2.1 ?_
      refine j_iconst (pc' := 31) dX12_element_30 rfl ?_
      refine j_isub (pc' := 32) dX12_element_31 rfl ?_
      refine j_callS (pc' := 35) (as := [aI i, aI 0, aI ((sh 4 d) - 1)]) (rest := [aR 53]) dX12_element_32 rfl s_Mod_49 (c_Mod_isIn (by omega) (by omega) (by omega)) rfl rfl rfl (jdet (st' := [aB (0 ≤ i ∧ i ≤ (sh 4 d) - 1), aR 53]) rfl ?_)
      refine j_ifb_ne (tgt := 42) (pc' := 38) dX12_element_35 (by decide) rfl (fun h35 => ?_) (fun h35 => ?_)
      · refine j_iconst (pc' := 43) dX12_element_42 rfl ?_
        refine j_putI (pc' := 46) dX12_element_43 rfl p_Mod_231 (by omega) hO (Nat.le_of_ble_eq_true rfl) ?_
        refine j_w (w' := up w 53 (eO 11 [aR 54, aR 55, aR 56, aR 57, aI hi, aI pc, aI ra, aI re, aR 58, aR 59, aR 60, aI fm, aI se, aR 61, aR 62, aR 63, aR 64, aR 65, aR 66, aI 0])) rfl ?_
        refine j_aload_n (pc' := 47) (z := 53) dX12_element_46 rfl rfl ?_
        refine j_get (pc' := 50) (v := aI 0) dX12_element_47 rfl f_Mod_231 (by omega) up_s rfl ?_
        refine j_if_ne (tgt := 68) (pc' := 53) dX12_element_50 (by decide) rfl (by omega) (fun h50 => ?_) (fun h50 => ?_)
        · exact absurd rfl h50
        · have hEi := q6 i (by omega) (by omega)
          refine j_aload_n (pc' := 54) (z := 53) dX12_element_53 rfl rfl ?_
          refine j_get (pc' := 57) (v := aR 66) dX12_element_54 rfl f_Mod_46 (by omega) up_s rfl ?_
          refine j_bipush (pc' := 59) dX12_element_57 rfl (by decide) ?_
          refine j_iload_n (pc' := 60) (z := d) dX12_element_59 rfl rfl ?_
          refine j_imul (pc' := 61) dX12_element_60 rfl ?_
          refine j_iload_n (pc' := 62) (z := i) dX12_element_61 rfl rfl ?_
          refine j_iadd (pc' := 63) dX12_element_62 rfl ?_
          refine j_iald (pc' := 64) dX12_element_63 rfl (by omega) ((up_n (by omega)).trans hel) (by omega) (by decide) ?_
          refine j_top (b := E d i) (((hRel d (by omega)).2.2 (by omega)).2.2 i (by omega)) ?_
          refine j_i2l (pc' := 65) dX12_element_64 rfl (by omega) ?_
          refine j_goto (pc' := 69) dX12_element_65 (by decide) ?_
          have e9 : elT sh d i = 0 := by unfold elT; (repeat' split) <;> first | rfl | (exfalso; omega)
          exact j_lret dX12_element_69 rfl ⟨by unfold elV; rw [e9]; rfl, hT.ob, ⟨_, _, _, _, _, by rw [e9]; exact up_s⟩⟩
      · refine j_iconst (pc' := 39) dX12_element_38 rfl ?_
        refine j_goto (pc' := 43) dX12_element_39 (by decide) ?_
        refine j_putI (pc' := 46) dX12_element_43 rfl p_Mod_231 (by omega) hO (Nat.le_of_ble_eq_true rfl) ?_
        refine j_w (w' := up w 53 (eO 11 [aR 54, aR 55, aR 56, aR 57, aI hi, aI pc, aI ra, aI re, aR 58, aR 59, aR 60, aI fm, aI se, aR 61, aR 62, aR 63, aR 64, aR 65, aR 66, aI 2])) rfl ?_
        refine j_aload_n (pc' := 47) (z := 53) dX12_element_46 rfl rfl ?_
        refine j_get (pc' := 50) (v := aI 2) dX12_element_47 rfl f_Mod_231 (by omega) up_s rfl ?_
        refine j_if_ne (tgt := 68) (pc' := 53) dX12_element_50 (by decide) rfl (by omega) (fun h50 => ?_) (fun h50 => ?_)
        · refine j_lconst (pc' := 69) (z := 0) dX12_element_68 rfl rfl ?_
          have e9 : elT sh d i = 2 := by unfold elT; (repeat' split) <;> first | rfl | (exfalso; omega)
          exact j_lret dX12_element_69 rfl ⟨by unfold elV; rw [e9]; rfl, hT.ob, ⟨_, _, _, _, _, by rw [e9]; exact up_s⟩⟩
        · exact absurd h50 (by decide)
  · refine j_iconst (pc' := 9) dX12_element_8 rfl ?_
    refine j_goto (pc' := 43) dX12_element_9 (by decide) ?_
    refine j_putI (pc' := 46) dX12_element_43 rfl p_Mod_231 (by omega) hO (Nat.le_of_ble_eq_true rfl) ?_
    refine j_w (w' := up w 53 (eO 11 [aR 54, aR 55, aR 56, aR 57, aI hi, aI pc, aI ra, aI re, aR 58, aR 59, aR 60, aI fm, aI se, aR 61, aR 62, aR 63, aR 64, aR 65, aR 66, aI 1])) rfl ?_
    refine j_aload_n (pc' := 47) (z := 53) dX12_element_46 rfl rfl ?_
    refine j_get (pc' := 50) (v := aI 1) dX12_element_47 rfl f_Mod_231 (by omega) up_s rfl ?_
    refine j_if_ne (tgt := 68) (pc' := 53) dX12_element_50 (by decide) rfl (by omega) (fun h50 => ?_) (fun h50 => ?_)
    · refine j_lconst (pc' := 69) (z := 0) dX12_element_68 rfl rfl ?_
      have e9 : elT sh d i = 1 := by unfold elT; (repeat' split) <;> first | rfl | (exfalso; omega)
      exact j_lret dX12_element_69 rfl ⟨by unfold elV; rw [e9]; rfl, hT.ob, ⟨_, _, _, _, _, by rw [e9]; exact up_s⟩⟩
    · exact absurd h50 (by decide)
set_option maxRecDepth 100000 in
set_option maxHeartbeats 4000000 in
theorem c_Mod_thrown {l : Launch} {w : AW} {hi pc ra re fm se th : Int} (hO : w 53 = mOb hi pc ra re fm se th) : Call l m_Mod_thrown false 68 68 [aR 53] w (rt (some (aI th)) w) := by
  refine Call.of (L := [some (aR 53)]) rfl (Nat.le_of_ble_eq_true rfl) rfl (fun G ad => ?_)
  refine j_aload_n (pc' := 1) (z := 53) dX12_thrown_0 rfl rfl ?_
  refine j_get (pc' := 4) (v := aI th) dX12_thrown_1 rfl f_Mod_231 (by omega) hO rfl ?_
  exact j_iret dX12_thrown_4 rfl (rt_eq (by omega))
set_option maxRecDepth 100000 in
set_option maxHeartbeats 4000000 in
theorem c_Mod_costBy {l : Launch} {w : AW} {k f : Int} (hk : 0 ≤ k ∧ k ≤ 7) : Call l m_Mod_costBy false 68 68 [aI k, aI f] w (rt (some (aI (price k f))) w) := by
  refine Call.of (L := [some (aI k), some (aI f)]) rfl (Nat.le_of_ble_eq_true rfl) rfl (fun G ad => ?_)
  refine j_iload_n (pc' := 1) (z := k) dX12_costBy_0 rfl rfl ?_
  have hx1 : -2147483648 ≤ k ∧ k ≤ 2147483647 := (by omega)
  rcases (show k = 1 ∨ k = 2 ∨ k = 3 ∨ k = 4 ∨ k = 5 ∨ k = 6 ∨ k = 7 ∨ (k < 1 ∨ 7 < k) by omega) with h1 | h1 | h1 | h1 | h1 | h1 | h1 | h1
  · refine j_tsw (tgt := 44) dX12_costBy_1 hx1 (by omega) (by rw [h1]; rfl) (by decide) ?_
    refine j_iconst (pc' := 45) dX12_costBy_44 rfl ?_
    exact j_iret dX12_costBy_45 rfl (rt_eq (by unfold price; (repeat' split) <;> first | rfl | omega))
  · refine j_tsw (tgt := 46) dX12_costBy_1 hx1 (by omega) (by rw [h1]; rfl) (by decide) ?_
    refine j_iconst (pc' := 47) dX12_costBy_46 rfl ?_
    refine j_iload_n (pc' := 48) (z := f) dX12_costBy_47 rfl rfl ?_
    refine j_iadd (pc' := 49) dX12_costBy_48 rfl ?_
    exact j_iret dX12_costBy_49 rfl (rt_eq (by unfold price; (repeat' split) <;> first | rfl | omega))
  · refine j_tsw (tgt := 50) dX12_costBy_1 hx1 (by omega) (by rw [h1]; rfl) (by decide) ?_
    refine j_iconst (pc' := 51) dX12_costBy_50 rfl ?_
    exact j_iret dX12_costBy_51 rfl (rt_eq (by unfold price; (repeat' split) <;> first | rfl | omega))
  · refine j_tsw (tgt := 52) dX12_costBy_1 hx1 (by omega) (by rw [h1]; rfl) (by decide) ?_
    refine j_bipush (pc' := 54) dX12_costBy_52 rfl (by decide) ?_
    exact j_iret dX12_costBy_54 rfl (rt_eq (by unfold price; (repeat' split) <;> first | rfl | omega))
  · refine j_tsw (tgt := 55) dX12_costBy_1 hx1 (by omega) (by rw [h1]; rfl) (by decide) ?_
    refine j_iconst (pc' := 56) dX12_costBy_55 rfl ?_
    refine j_iload_n (pc' := 57) (z := f) dX12_costBy_56 rfl rfl ?_
    refine j_iadd (pc' := 58) dX12_costBy_57 rfl ?_
    exact j_iret dX12_costBy_58 rfl (rt_eq (by unfold price; (repeat' split) <;> first | rfl | omega))
  · refine j_tsw (tgt := 59) dX12_costBy_1 hx1 (by omega) (by rw [h1]; rfl) (by decide) ?_
    refine j_iconst (pc' := 60) dX12_costBy_59 rfl ?_
    exact j_iret dX12_costBy_60 rfl (rt_eq (by unfold price; (repeat' split) <;> first | rfl | omega))
  · refine j_tsw (tgt := 61) dX12_costBy_1 hx1 (by omega) (by rw [h1]; rfl) (by decide) ?_
    refine j_bipush (pc' := 63) dX12_costBy_61 rfl (by decide) ?_
    refine j_iload_n (pc' := 64) (z := f) dX12_costBy_63 rfl rfl ?_
    refine j_iadd (pc' := 65) dX12_costBy_64 rfl ?_
    exact j_iret dX12_costBy_65 rfl (rt_eq (by unfold price; (repeat' split) <;> first | rfl | omega))
  · refine j_tswd (tgt := 66) dX12_costBy_1 hx1 h1 (by decide) ?_
    refine j_iconst (pc' := 67) dX12_costBy_66 rfl ?_
    exact j_iret dX12_costBy_67 rfl (rt_eq (by unfold price; (repeat' split) <;> first | rfl | omega))
set_option maxRecDepth 100000 in
set_option maxHeartbeats 4000000 in
theorem c_Mod_cost {l : Launch} {w : AW} {D Di : Int → Int → Int} {n mi hi ni mj : Int} {sh E : Int → Int → Int} {d : Int} (hM : Mod w D n mi hi Di ni mj sh E) (hB : CarOK D n mi) (hI : CarOK Di ni mj) (hhi : hi = 0 ∨ hi = 1) (hsh : ShOK sh E) (hwd : WdOK D) (hd : inI d) : Call l m_Mod_cost false 68 68 [aR 53, aI d] w (jM w (if kinR sh d = 0 then price (sh 1 d) (sh 2 d) else kinR sh d) D n mi hi Di ni mj sh E) := by
  have hT := MS.rf hM
  have hM0 := hM
  obtain ⟨⟨pc, ra, re, fm, se, th, hO⟩, ⟨S, hS, hR⟩, ⟨Sm, hSm⟩, ⟨Si, hSi, hRi⟩, ⟨Sw, hSw⟩, ⟨nu, hnu⟩, ⟨ha, hha⟩, ⟨fg, hfg⟩, ke, kk, kf, so, si, el, ⟨hke, hkk, hkf, hso, hsi, hel⟩, hRel⟩ := hM
  obtain ⟨hn, hD, hs0, hs1, hs2, hs3⟩ := id hB
  refine Call.of (L := [some (aR 53), some (aI d), none]) rfl (Nat.le_of_ble_eq_true rfl) rfl (fun G ad => ?_)
  refine j_aload_n (pc' := 1) (z := 53) dX12_cost_0 rfl rfl ?_
  refine j_iload_n (pc' := 2) (z := d) dX12_cost_1 rfl rfl ?_
  refine j_callV (pc' := 5) (as := [aI d]) (rest := []) dX12_cost_2 rfl s_Mod_147 (c_Mod_wrongKept hT.1 hB hsh (by omega)) (by omega) hO rfl rfl rfl rfl (jdet (st' := [aI (kinR sh d)]) rfl ?_)
  refine j_istore_n (pc' := 6) (L' := [some (aR 53), some (aI d), some (aI (kinR sh d))]) dX12_cost_5 rfl (by decide) rfl ?_
  have hkb := kinR_bd (sh := sh) (d := d)
  refine j_iload_n (pc' := 7) (z := (kinR sh d)) dX12_cost_6 rfl rfl ?_
  refine j_if_eq (tgt := 14) (pc' := 10) dX12_cost_7 (by decide) rfl (by omega) (fun h7 => ?_) (fun h7 => ?_)
  · obtain ⟨hd7, hct⟩ := kinR_0 h7
    obtain ⟨q1, q2, q3, q4, q5, q6⟩ := id (hsh d hd7)
    refine j_aload_n (pc' := 15) (z := 53) dX12_cost_14 rfl rfl ?_
    refine j_get (pc' := 18) (v := aR 62) dX12_cost_15 rfl f_Mod_34 (by omega) hO rfl ?_
    refine j_iload_n (pc' := 19) (z := d) dX12_cost_18 rfl rfl ?_
    refine j_iald (pc' := 20) dX12_cost_19 rfl (by omega) hkk (by omega) (by decide) ?_
    refine j_top (b := sh 1 d) ((hRel d (by omega)).2.1 (by omega)).1 ?_
    refine j_aload_n (pc' := 21) (z := 53) dX12_cost_20 rfl rfl ?_
    refine j_get (pc' := 24) (v := aR 63) dX12_cost_21 rfl f_Mod_37 (by omega) hO rfl ?_
    refine j_iload_n (pc' := 25) (z := d) dX12_cost_24 rfl rfl ?_
    refine j_iald (pc' := 26) dX12_cost_25 rfl (by omega) hkf (by omega) (by decide) ?_
    refine j_top (b := sh 2 d) ((hRel d (by omega)).2.1 (by omega)).2 ?_
    refine j_callS (pc' := 29) (as := [aI (sh 1 d), aI (sh 2 d)]) (rest := []) dX12_cost_26 rfl s_Mod_234 (c_Mod_costBy (by omega)) rfl rfl rfl (jdet (st' := [aI (price (sh 1 d) (sh 2 d))]) rfl ?_)
    exact j_iret dX12_cost_29 rfl (jM_of (by (repeat' split) <;> first | rfl | omega) hT)
  · refine j_iload_n (pc' := 11) (z := (kinR sh d)) dX12_cost_10 rfl rfl ?_
    refine j_goto (pc' := 29) dX12_cost_11 (by decide) ?_
    exact j_iret dX12_cost_29 rfl (jM_of (by (repeat' split) <;> first | rfl | omega) hT)
set_option maxRecDepth 100000 in
set_option maxHeartbeats 4000000 in
theorem c_Mod_toss {l : Launch} {w : AW} {D Di : Int → Int → Int} {n mi hi ni mj : Int} {sh E : Int → Int → Int} {d : Int} (hM : Mod w D n mi hi Di ni mj sh E) (hB : CarOK D n mi) (hI : CarOK Di ni mj) (hhi : hi = 0 ∨ hi = 1) (hsh : ShOK sh E) (hwd : WdOK D) (hd : inI d) : Call l m_Mod_toss false 68 68 [aR 53, aI d] w (jM w (tossA sh d) D n mi hi Di ni mj sh E) := by
  have hT := MS.rf hM
  have hM0 := hM
  obtain ⟨⟨pc, ra, re, fm, se, th, hO⟩, ⟨S, hS, hR⟩, ⟨Sm, hSm⟩, ⟨Si, hSi, hRi⟩, ⟨Sw, hSw⟩, ⟨nu, hnu⟩, ⟨ha, hha⟩, ⟨fg, hfg⟩, ke, kk, kf, so, si, el, ⟨hke, hkk, hkf, hso, hsi, hel⟩, hRel⟩ := hM
  obtain ⟨hn, hD, hs0, hs1, hs2, hs3⟩ := id hB
  refine Call.of (L := [some (aR 53), some (aI d), none, none, none]) rfl (Nat.le_of_ble_eq_true rfl) rfl (fun G ad => ?_)
  refine j_aload_n (pc' := 1) (z := 53) dX12_toss_0 rfl rfl ?_
  refine j_iload_n (pc' := 2) (z := d) dX12_toss_1 rfl rfl ?_
  refine j_callV (pc' := 5) (as := [aI d]) (rest := []) dX12_toss_2 rfl s_Mod_147 (c_Mod_wrongKept hT.1 hB hsh (by omega)) (by omega) hO rfl rfl rfl rfl (jdet (st' := [aI (kinR sh d)]) rfl ?_)
  refine j_istore_n (pc' := 6) (L' := [some (aR 53), some (aI d), some (aI (kinR sh d)), none, none]) dX12_toss_5 rfl (by decide) rfl ?_
  have hkb := kinR_bd (sh := sh) (d := d)
  refine j_iload_n (pc' := 7) (z := (kinR sh d)) dX12_toss_6 rfl rfl ?_
  refine j_if_eq (tgt := 12) (pc' := 10) dX12_toss_7 (by decide) rfl (by omega) (fun h7 => ?_) (fun h7 => ?_)
  · obtain ⟨hd7, hct⟩ := kinR_0 h7
    obtain ⟨q1, q2, q3, q4, q5, q6⟩ := id (hsh d hd7)
    refine j_aload_n (pc' := 13) (z := 53) dX12_toss_12 rfl rfl ?_
    refine j_get (pc' := 16) (v := aR 62) dX12_toss_13 rfl f_Mod_34 (by omega) hO rfl ?_
    refine j_iload_n (pc' := 17) (z := d) dX12_toss_16 rfl rfl ?_
    refine j_iald (pc' := 18) dX12_toss_17 rfl (by omega) hkk (by omega) (by decide) ?_
    refine j_top (b := sh 1 d) ((hRel d (by omega)).2.1 (by omega)).1 ?_
    refine j_istore_n (pc' := 19) (L' := [some (aR 53), some (aI d), some (aI (kinR sh d)), some (aI (sh 1 d)), none]) dX12_toss_18 rfl (by decide) rfl ?_
    refine j_aload_n (pc' := 20) (z := 53) dX12_toss_19 rfl rfl ?_
    refine j_get (pc' := 23) (v := aR 63) dX12_toss_20 rfl f_Mod_37 (by omega) hO rfl ?_
    refine j_iload_n (pc' := 24) (z := d) dX12_toss_23 rfl rfl ?_
    refine j_iald (pc' := 25) dX12_toss_24 rfl (by omega) hkf (by omega) (by decide) ?_
    refine j_top (b := sh 2 d) ((hRel d (by omega)).2.1 (by omega)).2 ?_
    refine j_istore (pc' := 27) (L' := [some (aR 53), some (aI d), some (aI (kinR sh d)), some (aI (sh 1 d)), some (aI (sh 2 d))]) dX12_toss_25 rfl (by decide) rfl ?_
    refine j_iload_n (pc' := 28) (z := (sh 1 d)) dX12_toss_27 rfl rfl ?_
    refine j_bipush (pc' := 30) dX12_toss_28 rfl (by decide) ?_
    refine j_icmp_eq (tgt := 38) (pc' := 33) dX12_toss_30 (by decide) rfl (by omega) (by omega) (fun h30 => ?_) (fun h30 => ?_)
    · refine j_bipush (pc' := 40) dX12_toss_38 rfl (by decide) ?_
      exact j_iret dX12_toss_40 rfl (jM_of (by unfold tossA; (repeat' split) <;> first | rfl | omega) hT)
    · refine j_iload (pc' := 35) (z := (sh 2 d)) dX12_toss_33 rfl rfl ?_
      refine j_if_ne (tgt := 41) (pc' := 38) dX12_toss_35 (by decide) rfl (by omega) (fun h35 => ?_) (fun h35 => ?_)
      · refine j_iload_n (pc' := 42) (z := (sh 1 d)) dX12_toss_41 rfl rfl ?_
        refine j_iconst (pc' := 43) dX12_toss_42 rfl ?_
        refine j_icmp_ne (tgt := 59) (pc' := 46) dX12_toss_43 (by decide) rfl (by omega) (by omega) (fun h43 => ?_) (fun h43 => ?_)
        · refine j_iload_n (pc' := 60) (z := (sh 1 d)) dX12_toss_59 rfl rfl ?_
          refine j_iconst (pc' := 61) dX12_toss_60 rfl ?_
          refine j_icmp_ne (tgt := 72) (pc' := 64) dX12_toss_61 (by decide) rfl (by omega) (by omega) (fun h61 => ?_) (fun h61 => ?_)
          · refine j_iload (pc' := 74) (z := (sh 2 d)) dX12_toss_72 rfl rfl ?_
            exact j_iret dX12_toss_74 rfl (jM_of (by unfold tossA; (repeat' split) <;> first | rfl | omega) hT)
          · refine j_bipush (pc' := 66) dX12_toss_64 rfl (by decide) ?_
            refine j_iload (pc' := 68) (z := (sh 2 d)) dX12_toss_66 rfl rfl ?_
            refine j_iadd (pc' := 69) dX12_toss_68 rfl ?_
            refine j_goto (pc' := 74) dX12_toss_69 (by decide) ?_
            exact j_iret dX12_toss_74 rfl (jM_of (by unfold tossA; (repeat' split) <;> first | rfl | omega) hT)
        · refine j_sipush (pc' := 49) dX12_toss_46 rfl (by decide) ?_
          refine j_iload_n (pc' := 50) (z := (sh 1 d)) dX12_toss_49 rfl rfl ?_
          refine j_iload (pc' := 52) (z := (sh 2 d)) dX12_toss_50 rfl rfl ?_
          refine j_callS (pc' := 55) (as := [aI (sh 1 d), aI (sh 2 d)]) (rest := [aI 200]) dX12_toss_52 rfl s_Mod_234 (c_Mod_costBy (by omega)) rfl rfl rfl (jdet (st' := [aI (price (sh 1 d) (sh 2 d)), aI 200]) rfl ?_)
          refine j_iadd (pc' := 56) dX12_toss_55 rfl ?_
          refine j_goto (pc' := 74) dX12_toss_56 (by decide) ?_
          exact j_iret dX12_toss_74 rfl (jM_of (by unfold tossA; (repeat' split) <;> first | rfl | omega) hT)
      · refine j_bipush (pc' := 40) dX12_toss_38 rfl (by decide) ?_
        exact j_iret dX12_toss_40 rfl (jM_of (by unfold tossA; (repeat' split) <;> first | rfl | omega) hT)
  · refine j_iload_n (pc' := 11) (z := (kinR sh d)) dX12_toss_10 rfl rfl ?_
    exact j_iret dX12_toss_11 rfl (jM_of (by unfold tossA; (repeat' split) <;> first | rfl | omega) hT)
set_option maxRecDepth 100000 in
set_option maxHeartbeats 4000000 in
theorem c_Mod_copy {l : Launch} {w : AW} {D Di : Int → Int → Int} {n mi hi ni mj : Int} {sh E : Int → Int → Int} {d i e j x : Int} (hM : Mod w D n mi hi Di ni mj sh E) (hB : CarOK D n mi) (hI : CarOK Di ni mj) (hhi : hi = 0 ∨ hi = 1) (hsh : ShOK sh E) (hwd : WdOK D) (hd : inI d) (hi9 : inI i) (he : inI e) (hj : inI j) (hx : inI x) : Call l m_Mod_copy false 68 68 [aR 53, aI d, aI i, aI e, aI j, aI x] w (jM w (copyA sh d i e j x) D n mi hi Di ni mj sh (copyE sh E d i e j x)) := by
  have hT := MS.rf hM
  have hM0 := hM
  obtain ⟨⟨pc, ra, re, fm, se, th, hO⟩, ⟨S, hS, hR⟩, ⟨Sm, hSm⟩, ⟨Si, hSi, hRi⟩, ⟨Sw, hSw⟩, ⟨nu, hnu⟩, ⟨ha, hha⟩, ⟨fg, hfg⟩, ke, kk, kf, so, si, el, ⟨hke, hkk, hkf, hso, hsi, hel⟩, hRel⟩ := hM
  obtain ⟨hn, hD, hs0, hs1, hs2, hs3⟩ := id hB
  refine Call.of (L := [some (aR 53), some (aI d), some (aI i), some (aI e), some (aI j), some (aI x), none, none]) rfl (Nat.le_of_ble_eq_true rfl) rfl (fun G ad => ?_)
  refine j_iload_n (pc' := 1) (z := d) dX12_copy_0 rfl rfl ?_
  refine j_callS (pc' := 4) (as := [aI d]) (rest := []) dX12_copy_1 rfl s_Mod_144 (c_Mod_isShelf (by omega)) rfl rfl rfl (jdet (st' := [aB (0 ≤ d ∧ d ≤ 7)]) rfl ?_)
  refine j_ifb_eq (tgt := 14) (pc' := 7) dX12_copy_4 (by decide) rfl (fun h4 => ?_) (fun h4 => ?_)
  · refine j_iconst (pc' := 15) dX12_copy_14 rfl ?_
    exact j_iret dX12_copy_15 rfl (jM_of (by rw [copyA_1 (by omega)]) (by have h9 := copyA_1 (sh := sh) (d := d) (i := i) (e := e) (j := j) (n := x) (by omega); rw [copyE_n h9 (by omega)]; exact hT))
  · refine j_iload_n (pc' := 8) (z := e) dX12_copy_7 rfl rfl ?_
    refine j_callS (pc' := 11) (as := [aI e]) (rest := []) dX12_copy_8 rfl s_Mod_144 (c_Mod_isShelf (by omega)) rfl rfl rfl (jdet (st' := [aB (0 ≤ e ∧ e ≤ 7)]) rfl ?_)
    refine j_ifb_ne (tgt := 16) (pc' := 14) dX12_copy_11 (by decide) rfl (fun h11 => ?_) (fun h11 => ?_)
    · have hde : (0 ≤ d ∧ d ≤ 7) ∧ (0 ≤ e ∧ e ≤ 7) := by omega
      obtain ⟨q1, q2, q3, q4, q5, q6⟩ := id (hsh d hde.1)
      obtain ⟨r1, r2, r3, r4, r5, r6⟩ := id (hsh e hde.2)
      refine j_aload_n (pc' := 17) (z := 53) dX12_copy_16 rfl rfl ?_
      refine j_get (pc' := 20) (v := aR 61) dX12_copy_17 rfl f_Mod_31 (by omega) hO rfl ?_
      refine j_iload_n (pc' := 21) (z := d) dX12_copy_20 rfl rfl ?_
      refine j_iald (pc' := 22) dX12_copy_21 rfl (by omega) hke (by omega) (by decide) ?_
      refine j_top (b := sh 0 d) (hRel d (by omega)).1 ?_
      refine j_if_eq (tgt := 34) (pc' := 25) dX12_copy_22 (by decide) rfl (by omega) (fun h22 => ?_) (fun h22 => ?_)
      · refine j_bipush (pc' := 36) dX12_copy_34 rfl (by decide) ?_
        exact j_iret dX12_copy_36 rfl (jM_of (by rw [copyA_2 hde (by omega)]) (by have h9 := copyA_2 (sh := sh) (d := d) (i := i) (e := e) (j := j) (n := x) hde (by omega); rw [copyE_n h9 (by omega)]; exact hT))
      · refine j_aload_n (pc' := 26) (z := 53) dX12_copy_25 rfl rfl ?_
        refine j_get (pc' := 29) (v := aR 61) dX12_copy_26 rfl f_Mod_31 (by omega) hO rfl ?_
        refine j_iload_n (pc' := 30) (z := e) dX12_copy_29 rfl rfl ?_
        refine j_iald (pc' := 31) dX12_copy_30 rfl (by omega) hke (by omega) (by decide) ?_
        refine j_top (b := sh 0 e) (hRel e (by omega)).1 ?_
        refine j_if_ne (tgt := 37) (pc' := 34) dX12_copy_31 (by decide) rfl (by omega) (fun h31 => ?_) (fun h31 => ?_)
        · refine j_aload_n (pc' := 38) (z := 53) dX12_copy_37 rfl rfl ?_
          refine j_get (pc' := 41) (v := aR 61) dX12_copy_38 rfl f_Mod_31 (by omega) hO rfl ?_
          refine j_iload_n (pc' := 42) (z := d) dX12_copy_41 rfl rfl ?_
          refine j_iald (pc' := 43) dX12_copy_42 rfl (by omega) hke (by omega) (by decide) ?_
          refine j_top (b := sh 0 d) (hRel d (by omega)).1 ?_
          refine j_iconst (pc' := 44) dX12_copy_43 rfl ?_
          refine j_icmp_ne (tgt := 72) (pc' := 47) dX12_copy_44 (by decide) rfl (by omega) (by omega) (fun h44 => ?_) (fun h44 => ?_)
          · refine j_bipush (pc' := 74) dX12_copy_72 rfl (by decide) ?_
            exact j_iret dX12_copy_74 rfl (jM_of (by rw [copyA_3 hde (by omega) (by omega)]) (by have h9 := copyA_3 (sh := sh) (d := d) (i := i) (e := e) (j := j) (n := x) hde (by omega) (by omega); rw [copyE_n h9 (by omega)]; exact hT))
          · refine j_aload_n (pc' := 48) (z := 53) dX12_copy_47 rfl rfl ?_
            refine j_get (pc' := 51) (v := aR 61) dX12_copy_48 rfl f_Mod_31 (by omega) hO rfl ?_
            refine j_iload_n (pc' := 52) (z := e) dX12_copy_51 rfl rfl ?_
            refine j_iald (pc' := 53) dX12_copy_52 rfl (by omega) hke (by omega) (by decide) ?_
            refine j_top (b := sh 0 e) (hRel e (by omega)).1 ?_
            refine j_iconst (pc' := 54) dX12_copy_53 rfl ?_
            refine j_icmp_ne (tgt := 72) (pc' := 57) dX12_copy_54 (by decide) rfl (by omega) (by omega) (fun h54 => ?_) (fun h54 => ?_)
            · refine j_bipush (pc' := 74) dX12_copy_72 rfl (by decide) ?_
              exact j_iret dX12_copy_74 rfl (jM_of (by rw [copyA_3 hde (by omega) (by omega)]) (by have h9 := copyA_3 (sh := sh) (d := d) (i := i) (e := e) (j := j) (n := x) hde (by omega) (by omega); rw [copyE_n h9 (by omega)]; exact hT))
            · refine j_aload_n (pc' := 58) (z := 53) dX12_copy_57 rfl rfl ?_
              refine j_get (pc' := 61) (v := aR 64) dX12_copy_58 rfl f_Mod_40 (by omega) hO rfl ?_
              refine j_iload_n (pc' := 62) (z := d) dX12_copy_61 rfl rfl ?_
              refine j_iald (pc' := 63) dX12_copy_62 rfl (by omega) hso (by omega) (by decide) ?_
              refine j_top (b := sh 3 d) ((hRel d (by omega)).2.2 (by omega)).1 ?_
              refine j_aload_n (pc' := 64) (z := 53) dX12_copy_63 rfl rfl ?_
              refine j_get (pc' := 67) (v := aR 64) dX12_copy_64 rfl f_Mod_40 (by omega) hO rfl ?_
              refine j_iload_n (pc' := 68) (z := e) dX12_copy_67 rfl rfl ?_
              refine j_iald (pc' := 69) dX12_copy_68 rfl (by omega) hso (by omega) (by decide) ?_
              refine j_top (b := sh 3 e) ((hRel e (by omega)).2.2 (by omega)).1 ?_
              refine j_icmp_eq (tgt := 75) (pc' := 72) dX12_copy_69 (by decide) rfl (by omega) (by omega) (fun h69 => ?_) (fun h69 => ?_)
              · refine j_iload (pc' := 77) (z := x) dX12_copy_75 rfl rfl ?_
                refine j_if_lt (tgt := 116) (pc' := 80) dX12_copy_77 (by decide) rfl (by omega) (fun h77 => ?_) (fun h77 => ?_)
                · refine j_bipush (pc' := 118) dX12_copy_116 rfl (by decide) ?_
                  exact j_iret dX12_copy_118 rfl (jM_of (by rw [copyA_4 hde (by omega) (by omega) (by omega)]) (by have h9 := copyA_4 (sh := sh) (d := d) (i := i) (e := e) (j := j) (n := x) hde (by omega) (by omega) (by omega); rw [copyE_n h9 (by omega)]; exact hT))
                · refine j_iload_n (pc' := 81) (z := i) dX12_copy_80 rfl rfl ?_
                  refine j_if_lt (tgt := 116) (pc' := 84) dX12_copy_81 (by decide) rfl (by omega) (fun h81 => ?_) (fun h81 => ?_)
                  · refine j_bipush (pc' := 118) dX12_copy_116 rfl (by decide) ?_
                    exact j_iret dX12_copy_118 rfl (jM_of (by rw [copyA_4 hde (by omega) (by omega) (by omega)]) (by have h9 := copyA_4 (sh := sh) (d := d) (i := i) (e := e) (j := j) (n := x) hde (by omega) (by omega) (by omega); rw [copyE_n h9 (by omega)]; exact hT))
                  · refine j_iload (pc' := 86) (z := j) dX12_copy_84 rfl rfl ?_
                    refine j_if_lt (tgt := 116) (pc' := 89) dX12_copy_86 (by decide) rfl (by omega) (fun h86 => ?_) (fun h86 => ?_)
                    · refine j_bipush (pc' := 118) dX12_copy_116 rfl (by decide) ?_
                      exact j_iret dX12_copy_118 rfl (jM_of (by rw [copyA_4 hde (by omega) (by omega) (by omega)]) (by have h9 := copyA_4 (sh := sh) (d := d) (i := i) (e := e) (j := j) (n := x) hde (by omega) (by omega) (by omega); rw [copyE_n h9 (by omega)]; exact hT))
                    · refine j_iload (pc' := 91) (z := x) dX12_copy_89 rfl rfl ?_
                      refine j_aload_n (pc' := 92) (z := 53) dX12_copy_91 rfl rfl ?_
                      refine j_get (pc' := 95) (v := aR 65) dX12_copy_92 rfl f_Mod_43 (by omega) hO rfl ?_
                      refine j_iload_n (pc' := 96) (z := d) dX12_copy_95 rfl rfl ?_
                      refine j_iald (pc' := 97) dX12_copy_96 rfl (by omega) hsi (by omega) (by decide) ?_
                      refine j_top (b := sh 4 d) ((hRel d (by omega)).2.2 (by omega)).2.1 ?_
                      refine j_iload_n (pc' := 98) (z := i) dX12_copy_97 rfl rfl ?_
                      refine j_isub (pc' := 99) dX12_copy_98 rfl ?_
                      refine j_icmp_gt (tgt := 116) (pc' := 102) dX12_copy_99 (by decide) rfl (by omega) (by omega) (fun h99 => ?_) (fun h99 => ?_)
                      · refine j_bipush (pc' := 118) dX12_copy_116 rfl (by decide) ?_
                        exact j_iret dX12_copy_118 rfl (jM_of (by rw [copyA_4 hde (by omega) (by omega) (by omega)]) (by have h9 := copyA_4 (sh := sh) (d := d) (i := i) (e := e) (j := j) (n := x) hde (by omega) (by omega) (by omega); rw [copyE_n h9 (by omega)]; exact hT))
                      · refine j_iload (pc' := 104) (z := x) dX12_copy_102 rfl rfl ?_
                        refine j_aload_n (pc' := 105) (z := 53) dX12_copy_104 rfl rfl ?_
                        refine j_get (pc' := 108) (v := aR 65) dX12_copy_105 rfl f_Mod_43 (by omega) hO rfl ?_
                        refine j_iload_n (pc' := 109) (z := e) dX12_copy_108 rfl rfl ?_
                        refine j_iald (pc' := 110) dX12_copy_109 rfl (by omega) hsi (by omega) (by decide) ?_
                        refine j_top (b := sh 4 e) ((hRel e (by omega)).2.2 (by omega)).2.1 ?_
                        refine j_iload (pc' := 112) (z := j) dX12_copy_110 rfl rfl ?_
                        refine j_isub (pc' := 113) dX12_copy_112 rfl ?_
                        refine j_icmp_le (tgt := 119) (pc' := 116) dX12_copy_113 (by decide) rfl (by omega) (by omega) (fun h113 => ?_) (fun h113 => ?_)
                        · refine j_iconst (pc' := 120) dX12_copy_119 rfl ?_
                          refine j_istore (pc' := 122) (L' := [some (aR 53), some (aI d), some (aI i), some (aI e), some (aI j), some (aI x), some (aI 0), none]) dX12_copy_120 rfl (by decide) rfl ?_
                          have lp122 : ∀ (k9 : Nat) (X : Int → Int) (t : Int), (0 ≤ t ∧ t ≤ x) → (X = cpM el (100 * d + i) (100 * e + j) (if j < i then 0 else x - t) (if j < i then t else x)) → ((x - t).toNat) = k9 → J l m_Mod_copy ad G [] false (jZ ad G false 68 m_Mod_copy.2.2.2.2.cells m_Mod_copy.2.2.2.2.slots (jM w (copyA sh d i e j x) D n mi hi Di ni mj sh (copyE sh E d i e j x))) 68 0 0 122 [some (aR 53), some (aI d), some (aI i), some (aI e), some (aI j), some (aI x), some (aI t), none] [] (up w 66 (eI 800 X)) := by
                            intro k9
                            induction k9 using Nat.strongRecOn with
                            | _ k9 ih122 =>
                              intro X t ht9 hX hk122
                              refine j_iload (pc' := 124) (z := t) dX12_copy_122 rfl rfl ?_
                              refine j_iload (pc' := 126) (z := x) dX12_copy_124 rfl rfl ?_
                              refine j_icmp_ge (tgt := 184) (pc' := 129) dX12_copy_126 (by decide) rfl (by omega) (by omega) (fun h126 => ?_) (fun h126 => ?_)
                              · refine j_iload (pc' := 186) (z := x) dX12_copy_184 rfl rfl ?_
                                exact j_iret dX12_copy_186 rfl (jM_of (by rw [copyA_5 hde (by omega) (by omega) (by omega)]) (by rw [copyE_y (copyA_5 hde (by omega) (by omega) (by omega)) (by omega)]; exact (hT.she ⟨((up_n (by omega)).trans hke), ((up_n (by omega)).trans hkk), ((up_n (by omega)).trans hkf), ((up_n (by omega)).trans hso), ((up_n (by omega)).trans hsi), up_s⟩ (by have e9 : X = cpM el (100 * d + i) (100 * e + j) 0 x := (by rw [hX]; by_cases g9 : j < i; (rw [if_pos g9, if_pos g9, show t = x by omega]); (rw [if_neg g9, if_neg g9, show x - t = 0 by omega])); rw [e9]; exact hRel.copy hde (by omega) (by omega) (by omega)) (fun j9 hj9 => by simp only [up]; (repeat' split) <;> first | rfl | (exfalso; omega)))))
                              · refine j_iload_n (pc' := 130) (z := i) dX12_copy_129 rfl rfl ?_
                                refine j_iload (pc' := 132) (z := j) dX12_copy_130 rfl rfl ?_
                                refine j_icmp_le (tgt := 140) (pc' := 135) dX12_copy_132 (by decide) rfl (by omega) (by omega) (fun h132 => ?_) (fun h132 => ?_)
                                · refine j_iload (pc' := 142) (z := x) dX12_copy_140 rfl rfl ?_
                                  refine j_iconst (pc' := 143) dX12_copy_142 rfl ?_
                                  refine j_isub (pc' := 144) dX12_copy_143 rfl ?_
                                  refine j_iload (pc' := 146) (z := t) dX12_copy_144 rfl rfl ?_
                                  refine j_isub (pc' := 147) dX12_copy_146 rfl ?_
                                  have hsrc : X (100 * d + i + ((x - 1) - t)) = el (100 * d + i + ((x - 1) - t)) := by
                                    rw [hX]
                                    rw [if_neg (by omega), if_neg (by omega)]; exact cpM_at (by omega)
                                  have hEs := q6 (i + ((x - 1) - t)) (by omega) (by omega)
                                  have hEl := ((hRel d hde.1).2.2 (by omega)).2.2 (i + ((x - 1) - t)) (by omega)
                                  rw [show 100 * d + (i + ((x - 1) - t)) = 100 * d + i + ((x - 1) - t) by omega] at hEl
                                  refine j_istore (pc' := 149) (L' := [some (aR 53), some (aI d), some (aI i), some (aI e), some (aI j), some (aI x), some (aI t), some (aI ((x - 1) - t))]) dX12_copy_147 rfl (by decide) rfl ?_
                                  refine j_aload_n (pc' := 150) (z := 53) dX12_copy_149 rfl rfl ?_
                                  refine j_get (pc' := 153) (v := aR 66) dX12_copy_150 rfl f_Mod_46 (by omega) ((up_n (by omega)).trans hO) rfl ?_
                                  refine j_bipush (pc' := 155) dX12_copy_153 rfl (by decide) ?_
                                  refine j_iload_n (pc' := 156) (z := e) dX12_copy_155 rfl rfl ?_
                                  refine j_imul (pc' := 157) dX12_copy_156 rfl ?_
                                  refine j_iload (pc' := 159) (z := j) dX12_copy_157 rfl rfl ?_
                                  refine j_iadd (pc' := 160) dX12_copy_159 rfl ?_
                                  refine j_iload (pc' := 162) (z := ((x - 1) - t)) dX12_copy_160 rfl rfl ?_
                                  refine j_iadd (pc' := 163) dX12_copy_162 rfl ?_
                                  refine j_aload_n (pc' := 164) (z := 53) dX12_copy_163 rfl rfl ?_
                                  refine j_get (pc' := 167) (v := aR 66) dX12_copy_164 rfl f_Mod_46 (by omega) ((up_n (by omega)).trans hO) rfl ?_
                                  refine j_bipush (pc' := 169) dX12_copy_167 rfl (by decide) ?_
                                  refine j_iload_n (pc' := 170) (z := d) dX12_copy_169 rfl rfl ?_
                                  refine j_imul (pc' := 171) dX12_copy_170 rfl ?_
                                  refine j_iload_n (pc' := 172) (z := i) dX12_copy_171 rfl rfl ?_
                                  refine j_iadd (pc' := 173) dX12_copy_172 rfl ?_
                                  refine j_iload (pc' := 175) (z := ((x - 1) - t)) dX12_copy_173 rfl rfl ?_
                                  refine j_iadd (pc' := 176) dX12_copy_175 rfl ?_
                                  refine j_iald (pc' := 177) dX12_copy_176 rfl (by omega) up_s (by omega) (by decide) ?_
                                  refine j_iast (pc' := 178) dX12_copy_177 rfl (by omega) up_s (by omega) (by decide) ?_
                                  refine j_w (w' := up w 66 (eI 800 (upi X (((100 * e) + j) + ((x - 1) - t)) (X (((100 * d) + i) + ((x - 1) - t)))))) (by funext j9; simp only [up]; (repeat' split) <;> first | rfl | (exfalso; omega)) ?_
                                  refine j_iinc (pc' := 181) (z := t) (L' := [some (aR 53), some (aI d), some (aI i), some (aI e), some (aI j), some (aI x), some (aI (t + 1)), some (aI ((x - 1) - t))]) dX12_copy_178 rfl (by decide) rfl rfl rfl ?_
                                  refine j_goto (pc' := 122) dX12_copy_181 (by decide) ?_
                                  refine j_forget 7 (L' := [some (aR 53), some (aI d), some (aI i), some (aI e), some (aI j), some (aI x), some (aI (t + 1)), none]) rfl ?_
                                  exact ih122 _ (by omega) (upi X (((100 * e) + j) + ((x - 1) - t)) (X (((100 * d) + i) + ((x - 1) - t)))) (t + 1) (by omega) (by rw [hX, if_neg (show ¬ j < i by omega), if_neg (show ¬ j < i by omega), if_neg (show ¬ j < i by omega), if_neg (show ¬ j < i by omega)]; exact cpM_b (by omega) (by omega)) rfl
                                · refine j_iload (pc' := 137) (z := t) dX12_copy_135 rfl rfl ?_
                                  refine j_goto (pc' := 147) dX12_copy_137 (by decide) ?_
                                  have hsrc : X (100 * d + i + (t)) = el (100 * d + i + (t)) := by
                                    rw [hX]
                                    rw [if_pos h132, if_pos h132]; exact cpM_at (by omega)
                                  have hEs := q6 (i + (t)) (by omega) (by omega)
                                  have hEl := ((hRel d hde.1).2.2 (by omega)).2.2 (i + (t)) (by omega)
                                  rw [show 100 * d + (i + (t)) = 100 * d + i + (t) by omega] at hEl
                                  refine j_istore (pc' := 149) (L' := [some (aR 53), some (aI d), some (aI i), some (aI e), some (aI j), some (aI x), some (aI t), some (aI t)]) dX12_copy_147 rfl (by decide) rfl ?_
                                  refine j_aload_n (pc' := 150) (z := 53) dX12_copy_149 rfl rfl ?_
                                  refine j_get (pc' := 153) (v := aR 66) dX12_copy_150 rfl f_Mod_46 (by omega) ((up_n (by omega)).trans hO) rfl ?_
                                  refine j_bipush (pc' := 155) dX12_copy_153 rfl (by decide) ?_
                                  refine j_iload_n (pc' := 156) (z := e) dX12_copy_155 rfl rfl ?_
                                  refine j_imul (pc' := 157) dX12_copy_156 rfl ?_
                                  refine j_iload (pc' := 159) (z := j) dX12_copy_157 rfl rfl ?_
                                  refine j_iadd (pc' := 160) dX12_copy_159 rfl ?_
                                  refine j_iload (pc' := 162) (z := t) dX12_copy_160 rfl rfl ?_
                                  refine j_iadd (pc' := 163) dX12_copy_162 rfl ?_
                                  refine j_aload_n (pc' := 164) (z := 53) dX12_copy_163 rfl rfl ?_
                                  refine j_get (pc' := 167) (v := aR 66) dX12_copy_164 rfl f_Mod_46 (by omega) ((up_n (by omega)).trans hO) rfl ?_
                                  refine j_bipush (pc' := 169) dX12_copy_167 rfl (by decide) ?_
                                  refine j_iload_n (pc' := 170) (z := d) dX12_copy_169 rfl rfl ?_
                                  refine j_imul (pc' := 171) dX12_copy_170 rfl ?_
                                  refine j_iload_n (pc' := 172) (z := i) dX12_copy_171 rfl rfl ?_
                                  refine j_iadd (pc' := 173) dX12_copy_172 rfl ?_
                                  refine j_iload (pc' := 175) (z := t) dX12_copy_173 rfl rfl ?_
                                  refine j_iadd (pc' := 176) dX12_copy_175 rfl ?_
                                  refine j_iald (pc' := 177) dX12_copy_176 rfl (by omega) up_s (by omega) (by decide) ?_
                                  refine j_iast (pc' := 178) dX12_copy_177 rfl (by omega) up_s (by omega) (by decide) ?_
                                  refine j_w (w' := up w 66 (eI 800 (upi X (((100 * e) + j) + t) (X (((100 * d) + i) + t))))) (by funext j9; simp only [up]; (repeat' split) <;> first | rfl | (exfalso; omega)) ?_
                                  refine j_iinc (pc' := 181) (z := t) (L' := [some (aR 53), some (aI d), some (aI i), some (aI e), some (aI j), some (aI x), some (aI (t + 1)), some (aI t)]) dX12_copy_178 rfl (by decide) rfl rfl rfl ?_
                                  refine j_goto (pc' := 122) dX12_copy_181 (by decide) ?_
                                  refine j_forget 7 (L' := [some (aR 53), some (aI d), some (aI i), some (aI e), some (aI j), some (aI x), some (aI (t + 1)), none]) rfl ?_
                                  exact ih122 _ (by omega) (upi X (((100 * e) + j) + t) (X (((100 * d) + i) + t))) (t + 1) (by omega) (by rw [hX, if_pos (show j < i by omega), if_pos (show j < i by omega), if_pos (show j < i by omega), if_pos (show j < i by omega)]; exact cpM_f (by omega) (by omega)) rfl
                          refine j_w (w' := up w 66 (eI 800 el)) (by funext j9; simp only [up]; (repeat' split) <;> first | (subst_vars; exact hel) | rfl | (exfalso; omega)) ?_
                          exact lp122 _ el 0 (by omega) (by by_cases g9 : j < i; (rw [if_pos g9, if_pos g9, cpM_0 (by omega)]); (rw [if_neg g9, if_neg g9, cpM_0 (by omega)])) rfl
                        · refine j_bipush (pc' := 118) dX12_copy_116 rfl (by decide) ?_
                          exact j_iret dX12_copy_118 rfl (jM_of (by rw [copyA_4 hde (by omega) (by omega) (by omega)]) (by have h9 := copyA_4 (sh := sh) (d := d) (i := i) (e := e) (j := j) (n := x) hde (by omega) (by omega) (by omega); rw [copyE_n h9 (by omega)]; exact hT))
              · refine j_bipush (pc' := 74) dX12_copy_72 rfl (by decide) ?_
                exact j_iret dX12_copy_74 rfl (jM_of (by rw [copyA_3 hde (by omega) (by omega)]) (by have h9 := copyA_3 (sh := sh) (d := d) (i := i) (e := e) (j := j) (n := x) hde (by omega) (by omega); rw [copyE_n h9 (by omega)]; exact hT))
        · refine j_bipush (pc' := 36) dX12_copy_34 rfl (by decide) ?_
          exact j_iret dX12_copy_36 rfl (jM_of (by rw [copyA_2 hde (by omega)]) (by have h9 := copyA_2 (sh := sh) (d := d) (i := i) (e := e) (j := j) (n := x) hde (by omega); rw [copyE_n h9 (by omega)]; exact hT))
    · refine j_iconst (pc' := 15) dX12_copy_14 rfl ?_
      exact j_iret dX12_copy_15 rfl (jM_of (by rw [copyA_1 (by omega)]) (by have h9 := copyA_1 (sh := sh) (d := d) (i := i) (e := e) (j := j) (n := x) (by omega); rw [copyE_n h9 (by omega)]; exact hT))
