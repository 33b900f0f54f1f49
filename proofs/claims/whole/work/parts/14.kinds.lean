set_option maxRecDepth 100000 in
set_option maxHeartbeats 4000000 in
theorem c_Part_loudness {l : Launch} {w : AW} {q : Nat} {f pace cold load : Int} (hp : 0 ≤ pace ∧ pace ≤ 1000) : Call l m_Part_loudness false 68 68 [aR q, aI f, aI pace, aI cold, aI load] w (rt (some (aI (pl f pace))) w) := by
  refine Call.of (L := [some (aR q), some (aI f), some (aI pace), some (aI cold), some (aI load)]) rfl (Nat.le_of_ble_eq_true rfl) rfl (fun G ad => ?_)
  refine j_iload_n (pc' := 1) (z := pace) dX7_loudness_0 rfl rfl ?_
  refine j_bipush (pc' := 3) dX7_loudness_1 rfl (by decide) ?_
  refine j_icmp_lt (tgt := 16) (pc' := 6) dX7_loudness_3 (by decide) rfl (by omega) (by omega) (fun h3 => ?_) (fun h3 => ?_)
  · refine j_iconst (pc' := 17) dX7_loudness_16 rfl ?_
    exact j_iret dX7_loudness_17 rfl (rt_eq (by unfold pl; split <;> omega))
  · refine j_iload_n (pc' := 7) (z := pace) dX7_loudness_6 rfl rfl ?_
    refine j_bipush (pc' := 9) dX7_loudness_7 rfl (by decide) ?_
    refine j_icmp_gt (tgt := 16) (pc' := 12) dX7_loudness_9 (by decide) rfl (by omega) (by omega) (fun h9 => ?_) (fun h9 => ?_)
    · refine j_iconst (pc' := 17) dX7_loudness_16 rfl ?_
      exact j_iret dX7_loudness_17 rfl (rt_eq (by unfold pl; split <;> omega))
    · refine j_iload_n (pc' := 13) (z := f) dX7_loudness_12 rfl rfl ?_
      refine j_goto (pc' := 17) dX7_loudness_13 (by decide) ?_
      exact j_iret dX7_loudness_17 rfl (rt_eq (by unfold pl; split <;> omega))
set_option maxRecDepth 100000 in
set_option maxHeartbeats 4000000 in
theorem c_Part_secondsToHold {l : Launch} {w : AW} {q : Nat} {f : Int}  : Call l m_Part_secondsToHold false 68 68 [aR q, aI f] w (rt (some (aI 10)) w) := by
  refine Call.of (L := [some (aR q), some (aI f)]) rfl (Nat.le_of_ble_eq_true rfl) rfl (fun G ad => ?_)
  refine j_bipush (pc' := 2) dX7_secondsToHold_0 rfl (by decide) ?_
  exact j_iret dX7_secondsToHold_2 rfl (rt_eq (by omega))
set_option maxRecDepth 100000 in
set_option maxHeartbeats 4000000 in
theorem c_Part_loosensBy {l : Launch} {w : AW} {q : Nat}   : Call l m_Part_loosensBy false 68 68 [aR q] w (rt (some (aI 1)) w) := by
  refine Call.of (L := [some (aR q)]) rfl (Nat.le_of_ble_eq_true rfl) rfl (fun G ad => ?_)
  refine j_iconst (pc' := 1) dX7_loosensBy_0 rfl ?_
  exact j_iret dX7_loosensBy_1 rfl (rt_eq (by omega))
set_option maxRecDepth 100000 in
set_option maxHeartbeats 4000000 in
theorem c_Part_price {l : Launch} {w : AW} {q : Nat} {f : Int}  : Call l m_Part_price false 68 68 [aR q, aI f] w (rt (some (aI 3)) w) := by
  refine Call.of (L := [some (aR q), some (aI f)]) rfl (Nat.le_of_ble_eq_true rfl) rfl (fun G ad => ?_)
  refine j_iconst (pc' := 1) dX7_price_0 rfl ?_
  exact j_iret dX7_price_1 rfl (rt_eq (by omega))
set_option maxRecDepth 100000 in
set_option maxHeartbeats 4000000 in
theorem c_Loose_loudness {l : Launch} {w : AW} {q : Nat} {f pace cold load : Int} (hp : 0 ≤ pace ∧ pace ≤ 1000) : Call l m_Loose_loudness false 68 68 [aR q, aI f, aI pace, aI cold, aI load] w (rt (some (aI (lo f pace))) w) := by
  refine Call.of (L := [some (aR q), some (aI f), some (aI pace), some (aI cold), some (aI load)]) rfl (Nat.le_of_ble_eq_true rfl) rfl (fun G ad => ?_)
  refine j_iload_n (pc' := 1) (z := pace) dX6_loudness_0 rfl rfl ?_
  refine j_bipush (pc' := 3) dX6_loudness_1 rfl (by decide) ?_
  refine j_icmp_lt (tgt := 10) (pc' := 6) dX6_loudness_3 (by decide) rfl (by omega) (by omega) (fun h3 => ?_) (fun h3 => ?_)
  · refine j_iconst (pc' := 11) dX6_loudness_10 rfl ?_
    exact j_iret dX6_loudness_11 rfl (rt_eq (by unfold lo; split <;> omega))
  · refine j_iload_n (pc' := 7) (z := f) dX6_loudness_6 rfl rfl ?_
    refine j_goto (pc' := 11) dX6_loudness_7 (by decide) ?_
    exact j_iret dX6_loudness_11 rfl (rt_eq (by unfold lo; split <;> omega))
set_option maxRecDepth 100000 in
set_option maxHeartbeats 4000000 in
theorem c_Loose_secondsToHold {l : Launch} {w : AW} {q : Nat} {f : Int}  {ci : Nat} (hq : q < 68) (hw : w q = eO ci []) (hci : (classes[ci]?).isSome = true)  : Call l m_Loose_secondsToHold false 68 68 [aR q, aI f] w (rt (some (aI 6)) w) := by
  refine Call.of (L := [some (aR q), some (aI f)]) rfl (Nat.le_of_ble_eq_true rfl) rfl (fun G ad => ?_)
  refine j_aload_n (pc' := 1) (z := q) dX6_secondsToHold_0 rfl rfl ?_
  refine j_iload_n (pc' := 2) (z := f) dX6_secondsToHold_1 rfl rfl ?_
  refine j_callU (pc' := 5) (as := [aI f]) (rest := []) dX6_secondsToHold_2 rfl s_Loose_7 c_Part_secondsToHold hq hw hci rfl rfl rfl (jdet (st' := [aI 10]) rfl ?_)
  refine j_iconst (pc' := 6) dX6_secondsToHold_5 rfl ?_
  refine j_isub (pc' := 7) dX6_secondsToHold_6 rfl ?_
  exact j_iret dX6_secondsToHold_7 rfl (rt_eq (by omega))
set_option maxRecDepth 100000 in
set_option maxHeartbeats 4000000 in
theorem c_Loose_loosensBy {l : Launch} {w : AW} {q : Nat}   {ci : Nat} (hq : q < 68) (hw : w q = eO ci []) (hci : (classes[ci]?).isSome = true)  : Call l m_Loose_loosensBy false 68 68 [aR q] w (rt (some (aI 3)) w) := by
  refine Call.of (L := [some (aR q)]) rfl (Nat.le_of_ble_eq_true rfl) rfl (fun G ad => ?_)
  refine j_aload_n (pc' := 1) (z := q) dX6_loosensBy_0 rfl rfl ?_
  refine j_callU (pc' := 4) (as := []) (rest := []) dX6_loosensBy_1 rfl s_Loose_11 c_Part_loosensBy hq hw hci rfl rfl rfl (jdet (st' := [aI 1]) rfl ?_)
  refine j_iconst (pc' := 5) dX6_loosensBy_4 rfl ?_
  refine j_iadd (pc' := 6) dX6_loosensBy_5 rfl ?_
  exact j_iret dX6_loosensBy_6 rfl (rt_eq (by omega))
set_option maxRecDepth 100000 in
set_option maxHeartbeats 4000000 in
theorem c_Loose_price {l : Launch} {w : AW} {q : Nat} {f : Int}  {ci : Nat} (hq : q < 68) (hw : w q = eO ci []) (hci : (classes[ci]?).isSome = true)  : Call l m_Loose_price false 68 68 [aR q, aI f] w (rt (some (aI 2)) w) := by
  refine Call.of (L := [some (aR q), some (aI f)]) rfl (Nat.le_of_ble_eq_true rfl) rfl (fun G ad => ?_)
  refine j_aload_n (pc' := 1) (z := q) dX6_price_0 rfl rfl ?_
  refine j_iload_n (pc' := 2) (z := f) dX6_price_1 rfl rfl ?_
  refine j_callU (pc' := 5) (as := [aI f]) (rest := []) dX6_price_2 rfl s_Loose_15 c_Part_price hq hw hci rfl rfl rfl (jdet (st' := [aI 3]) rfl ?_)
  refine j_iconst (pc' := 6) dX6_price_5 rfl ?_
  refine j_isub (pc' := 7) dX6_price_6 rfl ?_
  exact j_iret dX6_price_7 rfl (rt_eq (by omega))
set_option maxRecDepth 100000 in
set_option maxHeartbeats 4000000 in
theorem c_Tinny_loudness {l : Launch} {w : AW} {q : Nat} {f pace cold load : Int}  {ci : Nat} (hq : q < 68) (hw : w q = eO ci []) (hci : (classes[ci]?).isSome = true) (hp : 0 ≤ pace ∧ pace ≤ 1000) : Call l m_Tinny_loudness false 68 68 [aR q, aI f, aI pace, aI cold, aI load] w (rt (some (aI (2 * pl f pace))) w) := by
  refine Call.of (L := [some (aR q), some (aI f), some (aI pace), some (aI cold), some (aI load)]) rfl (Nat.le_of_ble_eq_true rfl) rfl (fun G ad => ?_)
  refine j_iconst (pc' := 1) dX10_loudness_0 rfl ?_
  refine j_aload_n (pc' := 2) (z := q) dX10_loudness_1 rfl rfl ?_
  refine j_iload_n (pc' := 3) (z := f) dX10_loudness_2 rfl rfl ?_
  refine j_iload_n (pc' := 4) (z := pace) dX10_loudness_3 rfl rfl ?_
  refine j_iload_n (pc' := 5) (z := cold) dX10_loudness_4 rfl rfl ?_
  refine j_iload (pc' := 7) (z := load) dX10_loudness_5 rfl rfl ?_
  refine j_callU (pc' := 10) (as := [aI f, aI pace, aI cold, aI load]) (rest := [aI 2]) dX10_loudness_7 rfl s_Tinny_7 (c_Part_loudness hp) hq hw hci rfl rfl rfl (jdet (st' := [aI (pl f pace), aI 2]) rfl ?_)
  refine j_imul (pc' := 11) dX10_loudness_10 rfl ?_
  exact j_iret dX10_loudness_11 rfl (rt_eq (by omega))
set_option maxRecDepth 100000 in
set_option maxHeartbeats 4000000 in
theorem c_Tinny_secondsToHold {l : Launch} {w : AW} {q : Nat} {f : Int}  {ci : Nat} (hq : q < 68) (hw : w q = eO ci []) (hci : (classes[ci]?).isSome = true)  : Call l m_Tinny_secondsToHold false 68 68 [aR q, aI f] w (rt (some (aI (10 + f))) w) := by
  refine Call.of (L := [some (aR q), some (aI f)]) rfl (Nat.le_of_ble_eq_true rfl) rfl (fun G ad => ?_)
  refine j_aload_n (pc' := 1) (z := q) dX10_secondsToHold_0 rfl rfl ?_
  refine j_iload_n (pc' := 2) (z := f) dX10_secondsToHold_1 rfl rfl ?_
  refine j_callU (pc' := 5) (as := [aI f]) (rest := []) dX10_secondsToHold_2 rfl s_Tinny_11 c_Part_secondsToHold hq hw hci rfl rfl rfl (jdet (st' := [aI 10]) rfl ?_)
  refine j_iload_n (pc' := 6) (z := f) dX10_secondsToHold_5 rfl rfl ?_
  refine j_iadd (pc' := 7) dX10_secondsToHold_6 rfl ?_
  exact j_iret dX10_secondsToHold_7 rfl (rt_eq (by omega))
set_option maxRecDepth 100000 in
set_option maxHeartbeats 4000000 in
theorem c_Tinny_price {l : Launch} {w : AW} {q : Nat} {f : Int}  {ci : Nat} (hq : q < 68) (hw : w q = eO ci []) (hci : (classes[ci]?).isSome = true)  : Call l m_Tinny_price false 68 68 [aR q, aI f] w (rt (some (aI (3 + f))) w) := by
  refine Call.of (L := [some (aR q), some (aI f)]) rfl (Nat.le_of_ble_eq_true rfl) rfl (fun G ad => ?_)
  refine j_aload_n (pc' := 1) (z := q) dX10_price_0 rfl rfl ?_
  refine j_iload_n (pc' := 2) (z := f) dX10_price_1 rfl rfl ?_
  refine j_callU (pc' := 5) (as := [aI f]) (rest := []) dX10_price_2 rfl s_Tinny_15 c_Part_price hq hw hci rfl rfl rfl (jdet (st' := [aI 3]) rfl ?_)
  refine j_iload_n (pc' := 6) (z := f) dX10_price_5 rfl rfl ?_
  refine j_iadd (pc' := 7) dX10_price_6 rfl ?_
  exact j_iret dX10_price_7 rfl (rt_eq (by omega))
set_option maxRecDepth 100000 in
set_option maxHeartbeats 4000000 in
theorem c_Heavy_loudness {l : Launch} {w : AW} {q : Nat} {f pace cold load : Int}  {ci : Nat} (hq : q < 68) (hw : w q = eO ci []) (hci : (classes[ci]?).isSome = true) (hp : 0 ≤ pace ∧ pace ≤ 1000) (hf : 0 ≤ f ∧ f ≤ 9) (hl : 0 ≤ load ∧ load ≤ 5) : Call l m_Heavy_loudness false 68 68 [aR q, aI f, aI pace, aI cold, aI load] w (rt (some (aI (max 0 (pl f pace - load)))) w) := by
  have hb := pl_bd (pace := pace) hf
  refine Call.of (L := [some (aR q), some (aI f), some (aI pace), some (aI cold), some (aI load)]) rfl (Nat.le_of_ble_eq_true rfl) rfl (fun G ad => ?_)
  refine j_iconst (pc' := 1) dX5_loudness_0 rfl ?_
  refine j_aload_n (pc' := 2) (z := q) dX5_loudness_1 rfl rfl ?_
  refine j_iload_n (pc' := 3) (z := f) dX5_loudness_2 rfl rfl ?_
  refine j_iload_n (pc' := 4) (z := pace) dX5_loudness_3 rfl rfl ?_
  refine j_iload_n (pc' := 5) (z := cold) dX5_loudness_4 rfl rfl ?_
  refine j_iload (pc' := 7) (z := load) dX5_loudness_5 rfl rfl ?_
  refine j_callU (pc' := 10) (as := [aI f, aI pace, aI cold, aI load]) (rest := [aI 0]) dX5_loudness_7 rfl s_Heavy_7 (c_Part_loudness hp) hq hw hci rfl rfl rfl (jdet (st' := [aI (pl f pace), aI 0]) rfl ?_)
  refine j_iload (pc' := 12) (z := load) dX5_loudness_10 rfl rfl ?_
  refine j_isub (pc' := 13) dX5_loudness_12 rfl ?_
  refine j_mmax (pc' := 16) dX5_loudness_13 rfl s_Heavy_11 rfl (by omega) (by omega) ?_
  exact j_iret dX5_loudness_16 rfl (rt_eq (by omega))
set_option maxRecDepth 100000 in
set_option maxHeartbeats 4000000 in
theorem c_Heavy_secondsToHold {l : Launch} {w : AW} {q : Nat} {f : Int}  {ci : Nat} (hq : q < 68) (hw : w q = eO ci []) (hci : (classes[ci]?).isSome = true)  : Call l m_Heavy_secondsToHold false 68 68 [aR q, aI f] w (rt (some (aI 15)) w) := by
  refine Call.of (L := [some (aR q), some (aI f)]) rfl (Nat.le_of_ble_eq_true rfl) rfl (fun G ad => ?_)
  refine j_aload_n (pc' := 1) (z := q) dX5_secondsToHold_0 rfl rfl ?_
  refine j_iload_n (pc' := 2) (z := f) dX5_secondsToHold_1 rfl rfl ?_
  refine j_callU (pc' := 5) (as := [aI f]) (rest := []) dX5_secondsToHold_2 rfl s_Heavy_17 c_Part_secondsToHold hq hw hci rfl rfl rfl (jdet (st' := [aI 10]) rfl ?_)
  refine j_iconst (pc' := 6) dX5_secondsToHold_5 rfl ?_
  refine j_iadd (pc' := 7) dX5_secondsToHold_6 rfl ?_
  exact j_iret dX5_secondsToHold_7 rfl (rt_eq (by omega))
set_option maxRecDepth 100000 in
set_option maxHeartbeats 4000000 in
theorem c_Heavy_price {l : Launch} {w : AW} {q : Nat} {f : Int}  {ci : Nat} (hq : q < 68) (hw : w q = eO ci []) (hci : (classes[ci]?).isSome = true)  : Call l m_Heavy_price false 68 68 [aR q, aI f] w (rt (some (aI 9)) w) := by
  refine Call.of (L := [some (aR q), some (aI f)]) rfl (Nat.le_of_ble_eq_true rfl) rfl (fun G ad => ?_)
  refine j_aload_n (pc' := 1) (z := q) dX5_price_0 rfl rfl ?_
  refine j_iload_n (pc' := 2) (z := f) dX5_price_1 rfl rfl ?_
  refine j_callU (pc' := 5) (as := [aI f]) (rest := []) dX5_price_2 rfl s_Heavy_21 c_Part_price hq hw hci rfl rfl rfl (jdet (st' := [aI 3]) rfl ?_)
  refine j_bipush (pc' := 7) dX5_price_5 rfl (by decide) ?_
  refine j_iadd (pc' := 8) dX5_price_7 rfl ?_
  exact j_iret dX5_price_8 rfl (rt_eq (by omega))
set_option maxRecDepth 100000 in
set_option maxHeartbeats 4000000 in
theorem c_Frosty_loudness {l : Launch} {w : AW} {q : Nat} {f pace cold load : Int}  {ci : Nat} (hq : q < 68) (hw : w q = eO ci []) (hci : (classes[ci]?).isSome = true) (hp : 0 ≤ pace ∧ pace ≤ 1000) (hc : 0 ≤ cold ∧ cold ≤ 9) : Call l m_Frosty_loudness false 68 68 [aR q, aI f, aI pace, aI cold, aI load] w (rt (some (aI (if 5 ≤ cold then lo f pace else 0))) w) := by
  refine Call.of (L := [some (aR q), some (aI f), some (aI pace), some (aI cold), some (aI load)]) rfl (Nat.le_of_ble_eq_true rfl) rfl (fun G ad => ?_)
  refine j_iload_n (pc' := 1) (z := cold) dX4_loudness_0 rfl rfl ?_
  refine j_iconst (pc' := 2) dX4_loudness_1 rfl ?_
  refine j_icmp_lt (tgt := 17) (pc' := 5) dX4_loudness_2 (by decide) rfl (by omega) (by omega) (fun h2 => ?_) (fun h2 => ?_)
  · refine j_iconst (pc' := 18) dX4_loudness_17 rfl ?_
    exact j_iret dX4_loudness_18 rfl (rt_eq (by split <;> omega))
  · refine j_aload_n (pc' := 6) (z := q) dX4_loudness_5 rfl rfl ?_
    refine j_iload_n (pc' := 7) (z := f) dX4_loudness_6 rfl rfl ?_
    refine j_iload_n (pc' := 8) (z := pace) dX4_loudness_7 rfl rfl ?_
    refine j_iload_n (pc' := 9) (z := cold) dX4_loudness_8 rfl rfl ?_
    refine j_iload (pc' := 11) (z := load) dX4_loudness_9 rfl rfl ?_
    refine j_callU (pc' := 14) (as := [aI f, aI pace, aI cold, aI load]) (rest := []) dX4_loudness_11 rfl s_Frosty_7 (c_Loose_loudness hp) hq hw hci rfl rfl rfl (jdet (st' := [aI (lo f pace)]) rfl ?_)
    refine j_goto (pc' := 18) dX4_loudness_14 (by decide) ?_
    exact j_iret dX4_loudness_18 rfl (rt_eq (by split <;> omega))
set_option maxRecDepth 100000 in
set_option maxHeartbeats 4000000 in
theorem c_Frosty_secondsToHold {l : Launch} {w : AW} {q : Nat} {f : Int}  {ci : Nat} (hq : q < 68) (hw : w q = eO ci []) (hci : (classes[ci]?).isSome = true)  : Call l m_Frosty_secondsToHold false 68 68 [aR q, aI f] w (rt (some (aI 12)) w) := by
  refine Call.of (L := [some (aR q), some (aI f)]) rfl (Nat.le_of_ble_eq_true rfl) rfl (fun G ad => ?_)
  refine j_iconst (pc' := 1) dX4_secondsToHold_0 rfl ?_
  refine j_aload_n (pc' := 2) (z := q) dX4_secondsToHold_1 rfl rfl ?_
  refine j_iload_n (pc' := 3) (z := f) dX4_secondsToHold_2 rfl rfl ?_
  refine j_callU (pc' := 6) (as := [aI f]) (rest := [aI 2]) dX4_secondsToHold_3 rfl s_Frosty_11 (c_Loose_secondsToHold hq hw hci) hq hw hci rfl rfl rfl (jdet (st' := [aI 6, aI 2]) rfl ?_)
  refine j_imul (pc' := 7) dX4_secondsToHold_6 rfl ?_
  exact j_iret dX4_secondsToHold_7 rfl (rt_eq (by omega))
set_option maxRecDepth 100000 in
set_option maxHeartbeats 4000000 in
theorem c_Frosty_price {l : Launch} {w : AW} {q : Nat} {f : Int}  {ci : Nat} (hq : q < 68) (hw : w q = eO ci []) (hci : (classes[ci]?).isSome = true)  : Call l m_Frosty_price false 68 68 [aR q, aI f] w (rt (some (aI 4)) w) := by
  refine Call.of (L := [some (aR q), some (aI f)]) rfl (Nat.le_of_ble_eq_true rfl) rfl (fun G ad => ?_)
  refine j_iconst (pc' := 1) dX4_price_0 rfl ?_
  refine j_aload_n (pc' := 2) (z := q) dX4_price_1 rfl rfl ?_
  refine j_iload_n (pc' := 3) (z := f) dX4_price_2 rfl rfl ?_
  refine j_callU (pc' := 6) (as := [aI f]) (rest := [aI 2]) dX4_price_3 rfl s_Frosty_15 (c_Loose_price hq hw hci) hq hw hci rfl rfl rfl (jdet (st' := [aI 2, aI 2]) rfl ?_)
  refine j_imul (pc' := 7) dX4_price_6 rfl ?_
  exact j_iret dX4_price_7 rfl (rt_eq (by omega))
set_option maxRecDepth 100000 in
set_option maxHeartbeats 4000000 in
theorem c_Doubled_loudness {l : Launch} {w : AW} {q : Nat} {f pace cold load : Int}  {ci : Nat} (hq : q < 68) (hw : w q = eO ci []) (hci : (classes[ci]?).isSome = true) (hp : 0 ≤ pace ∧ pace ≤ 1000) (hf : 0 ≤ f ∧ f ≤ 9) : Call l m_Doubled_loudness false 68 68 [aR q, aI f, aI pace, aI cold, aI load] w (rt (some (aI (if 0 < 2 * pl f pace ∧ pace % 2 = 0 then 2 * pl f pace + 3 else 2 * pl f pace))) w) := by
  have hb := pl_bd (pace := pace) hf
  refine Call.of (L := [some (aR q), some (aI f), some (aI pace), some (aI cold), some (aI load), none]) rfl (Nat.le_of_ble_eq_true rfl) rfl (fun G ad => ?_)
  refine j_aload_n (pc' := 1) (z := q) dX3_loudness_0 rfl rfl ?_
  refine j_iload_n (pc' := 2) (z := f) dX3_loudness_1 rfl rfl ?_
  refine j_iload_n (pc' := 3) (z := pace) dX3_loudness_2 rfl rfl ?_
  refine j_iload_n (pc' := 4) (z := cold) dX3_loudness_3 rfl rfl ?_
  refine j_iload (pc' := 6) (z := load) dX3_loudness_4 rfl rfl ?_
  refine j_callU (pc' := 9) (as := [aI f, aI pace, aI cold, aI load]) (rest := []) dX3_loudness_6 rfl s_Doubled_7 (c_Tinny_loudness hq hw hci hp) hq hw hci rfl rfl rfl (jdet (st' := [aI (2 * pl f pace)]) rfl ?_)
  refine j_istore (pc' := 11) (L' := [some (aR q), some (aI f), some (aI pace), some (aI cold), some (aI load), some (aI (2 * pl f pace))]) dX3_loudness_9 rfl (by decide) rfl ?_
  refine j_iload (pc' := 13) (z := (2 * pl f pace)) dX3_loudness_11 rfl rfl ?_
  refine j_if_le (tgt := 29) (pc' := 16) dX3_loudness_13 (by decide) rfl (by omega) (fun h13 => ?_) (fun h13 => ?_)
  · refine j_iload (pc' := 31) (z := (2 * pl f pace)) dX3_loudness_29 rfl rfl ?_
    exact j_iret dX3_loudness_31 rfl (rt_eq (by split <;> omega))
  · refine j_iload_n (pc' := 17) (z := pace) dX3_loudness_16 rfl rfl ?_
    refine j_iconst (pc' := 18) dX3_loudness_17 rfl ?_
    refine j_irem (pc' := 19) dX3_loudness_18 rfl (by omega) (by omega) ?_
    refine j_if_ne (tgt := 29) (pc' := 22) dX3_loudness_19 (by decide) rfl (by omega) (fun h19 => ?_) (fun h19 => ?_)
    · refine j_iload (pc' := 31) (z := (2 * pl f pace)) dX3_loudness_29 rfl rfl ?_
      exact j_iret dX3_loudness_31 rfl (rt_eq (by split <;> omega))
    · refine j_iload (pc' := 24) (z := (2 * pl f pace)) dX3_loudness_22 rfl rfl ?_
      refine j_iconst (pc' := 25) dX3_loudness_24 rfl ?_
      refine j_iadd (pc' := 26) dX3_loudness_25 rfl ?_
      refine j_goto (pc' := 31) dX3_loudness_26 (by decide) ?_
      exact j_iret dX3_loudness_31 rfl (rt_eq (by split <;> omega))
set_option maxRecDepth 100000 in
set_option maxHeartbeats 4000000 in
theorem c_Doubled_secondsToHold {l : Launch} {w : AW} {q : Nat} {f : Int}  {ci : Nat} (hq : q < 68) (hw : w q = eO ci []) (hci : (classes[ci]?).isSome = true)  : Call l m_Doubled_secondsToHold false 68 68 [aR q, aI f] w (rt (some (aI (12 + f))) w) := by
  refine Call.of (L := [some (aR q), some (aI f)]) rfl (Nat.le_of_ble_eq_true rfl) rfl (fun G ad => ?_)
  refine j_aload_n (pc' := 1) (z := q) dX3_secondsToHold_0 rfl rfl ?_
  refine j_iload_n (pc' := 2) (z := f) dX3_secondsToHold_1 rfl rfl ?_
  refine j_callU (pc' := 5) (as := [aI f]) (rest := []) dX3_secondsToHold_2 rfl s_Doubled_11 (c_Tinny_secondsToHold hq hw hci) hq hw hci rfl rfl rfl (jdet (st' := [aI (10 + f)]) rfl ?_)
  refine j_iconst (pc' := 6) dX3_secondsToHold_5 rfl ?_
  refine j_iadd (pc' := 7) dX3_secondsToHold_6 rfl ?_
  exact j_iret dX3_secondsToHold_7 rfl (rt_eq (by omega))
set_option maxRecDepth 100000 in
set_option maxHeartbeats 4000000 in
theorem c_Doubled_price {l : Launch} {w : AW} {q : Nat} {f : Int}  {ci : Nat} (hq : q < 68) (hw : w q = eO ci []) (hci : (classes[ci]?).isSome = true)  : Call l m_Doubled_price false 68 68 [aR q, aI f] w (rt (some (aI (5 + f))) w) := by
  refine Call.of (L := [some (aR q), some (aI f)]) rfl (Nat.le_of_ble_eq_true rfl) rfl (fun G ad => ?_)
  refine j_aload_n (pc' := 1) (z := q) dX3_price_0 rfl rfl ?_
  refine j_iload_n (pc' := 2) (z := f) dX3_price_1 rfl rfl ?_
  refine j_callU (pc' := 5) (as := [aI f]) (rest := []) dX3_price_2 rfl s_Doubled_15 (c_Tinny_price hq hw hci) hq hw hci rfl rfl rfl (jdet (st' := [aI (3 + f)]) rfl ?_)
  refine j_iconst (pc' := 6) dX3_price_5 rfl ?_
  refine j_iadd (pc' := 7) dX3_price_6 rfl ?_
  exact j_iret dX3_price_7 rfl (rt_eq (by omega))
set_option maxRecDepth 100000 in
set_option maxHeartbeats 4000000 in
theorem c_Dead_loudness {l : Launch} {w : AW} {q : Nat} {f pace cold load : Int}  : Call l m_Dead_loudness false 68 68 [aR q, aI f, aI pace, aI cold, aI load] w (rt (some (aI 0)) w) := by
  refine Call.of (L := [some (aR q), some (aI f), some (aI pace), some (aI cold), some (aI load)]) rfl (Nat.le_of_ble_eq_true rfl) rfl (fun G ad => ?_)
  refine j_iconst (pc' := 1) dX1_loudness_0 rfl ?_
  exact j_iret dX1_loudness_1 rfl (rt_eq (by omega))
set_option maxRecDepth 100000 in
set_option maxHeartbeats 4000000 in
theorem c_Dead_loosensBy {l : Launch} {w : AW} {q : Nat}   : Call l m_Dead_loosensBy false 68 68 [aR q] w (rt (some (aI 0)) w) := by
  refine Call.of (L := [some (aR q)]) rfl (Nat.le_of_ble_eq_true rfl) rfl (fun G ad => ?_)
  refine j_iconst (pc' := 1) dX1_loosensBy_0 rfl ?_
  exact j_iret dX1_loosensBy_1 rfl (rt_eq (by omega))
set_option maxRecDepth 100000 in
set_option maxHeartbeats 4000000 in
theorem c_Dead_price {l : Launch} {w : AW} {q : Nat} {f : Int}  {ci : Nat} (hq : q < 68) (hw : w q = eO ci []) (hci : (classes[ci]?).isSome = true)  : Call l m_Dead_price false 68 68 [aR q, aI f] w (rt (some (aI 4)) w) := by
  refine Call.of (L := [some (aR q), some (aI f)]) rfl (Nat.le_of_ble_eq_true rfl) rfl (fun G ad => ?_)
  refine j_aload_n (pc' := 1) (z := q) dX1_price_0 rfl rfl ?_
  refine j_iload_n (pc' := 2) (z := f) dX1_price_1 rfl rfl ?_
  refine j_callU (pc' := 5) (as := [aI f]) (rest := []) dX1_price_2 rfl s_Dead_7 c_Part_price hq hw hci rfl rfl rfl (jdet (st' := [aI 3]) rfl ?_)
  refine j_iconst (pc' := 6) dX1_price_5 rfl ?_
  refine j_iadd (pc' := 7) dX1_price_6 rfl ?_
  exact j_iret dX1_price_7 rfl (rt_eq (by omega))
set_option maxRecDepth 100000 in
set_option maxHeartbeats 4000000 in
theorem c_Deep_loudness {l : Launch} {w : AW} {q : Nat} {f pace cold load : Int}  {ci : Nat} (hq : q < 68) (hw : w q = eO ci []) (hci : (classes[ci]?).isSome = true) (hp : 0 ≤ pace ∧ pace ≤ 1000) (hf : 0 ≤ f ∧ f ≤ 9) (hl : 0 ≤ load ∧ load ≤ 5) : Call l m_Deep_loudness false 68 68 [aR q, aI f, aI pace, aI cold, aI load] w (rt (some (aI (2 * max 0 (pl f pace - load)))) w) := by
  refine Call.of (L := [some (aR q), some (aI f), some (aI pace), some (aI cold), some (aI load)]) rfl (Nat.le_of_ble_eq_true rfl) rfl (fun G ad => ?_)
  refine j_iconst (pc' := 1) dX2_loudness_0 rfl ?_
  refine j_aload_n (pc' := 2) (z := q) dX2_loudness_1 rfl rfl ?_
  refine j_iload_n (pc' := 3) (z := f) dX2_loudness_2 rfl rfl ?_
  refine j_iload_n (pc' := 4) (z := pace) dX2_loudness_3 rfl rfl ?_
  refine j_iload_n (pc' := 5) (z := cold) dX2_loudness_4 rfl rfl ?_
  refine j_iload (pc' := 7) (z := load) dX2_loudness_5 rfl rfl ?_
  refine j_callU (pc' := 10) (as := [aI f, aI pace, aI cold, aI load]) (rest := [aI 2]) dX2_loudness_7 rfl s_Deep_7 (c_Heavy_loudness hq hw hci hp hf hl) hq hw hci rfl rfl rfl (jdet (st' := [aI (max 0 (pl f pace - load)), aI 2]) rfl ?_)
  refine j_imul (pc' := 11) dX2_loudness_10 rfl ?_
  exact j_iret dX2_loudness_11 rfl (rt_eq (by omega))
set_option maxRecDepth 100000 in
set_option maxHeartbeats 4000000 in
theorem c_Deep_price {l : Launch} {w : AW} {q : Nat} {f : Int}  {ci : Nat} (hq : q < 68) (hw : w q = eO ci []) (hci : (classes[ci]?).isSome = true)  : Call l m_Deep_price false 68 68 [aR q, aI f] w (rt (some (aI (9 + f))) w) := by
  refine Call.of (L := [some (aR q), some (aI f)]) rfl (Nat.le_of_ble_eq_true rfl) rfl (fun G ad => ?_)
  refine j_aload_n (pc' := 1) (z := q) dX2_price_0 rfl rfl ?_
  refine j_iload_n (pc' := 2) (z := f) dX2_price_1 rfl rfl ?_
  refine j_callU (pc' := 5) (as := [aI f]) (rest := []) dX2_price_2 rfl s_Deep_11 (c_Heavy_price hq hw hci) hq hw hci rfl rfl rfl (jdet (st' := [aI 9]) rfl ?_)
  refine j_iload_n (pc' := 6) (z := f) dX2_price_5 rfl rfl ?_
  refine j_iadd (pc' := 7) dX2_price_6 rfl ?_
  exact j_iret dX2_price_7 rfl (rt_eq (by omega))
