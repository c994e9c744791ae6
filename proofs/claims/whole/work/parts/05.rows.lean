/-! Rows: contracts -/
theorem cp_lt {i w mo : Nat} (h : i < mo) : i * w + w ≤ w * mo := by
  have h1 : (i + 1) * w ≤ mo * w := Nat.mul_le_mul_right w (by omega)
  rw [Nat.add_mul, Nat.mul_comm mo w] at h1
  omega
theorem rm_a {i n w mo : Nat} (hi : i < n) (hn : n ≤ mo) : (i + 1) * w + (n * w - (i + 1) * w) ≤ w * mo := by
  have h1 : (i + 1) * w ≤ n * w := Nat.mul_le_mul_right w (by omega)
  have h2 : n * w ≤ mo * w := Nat.mul_le_mul_right w hn
  rw [Nat.mul_comm mo w] at h2
  omega
theorem rm_b {i n w mo : Nat} (hi : i < n) (hn : n ≤ mo) : i * w + (n * w - (i + 1) * w) ≤ w * mo := by
  have h1 : i * w ≤ (i + 1) * w := Nat.mul_le_mul_right w (by omega)
  have h2 := rm_a (w := w) hi hn
  omega
theorem lkX2_has_26 : Cond.fieldLink RX2 26 "QuorumRegister$Rows" "count" "I" ∈ wsX2_has := by decide +kernel
theorem inX2_has_X2 : ∀ w ∈ wsX20, w ∈ wsX2_has := by decide +kernel
set_option maxHeartbeats 4000000 in
set_option maxRecDepth 100000 in
/-- X2_has(i) -/
theorem k_X2_has (l : Launch) (dC : Nat → ClassId) (dI : Nat → Nat → Nat) (h hc : Nat) (kA : ClassId) (w mo n : Nat) (f : Nat → Int32) (i : Int32) : MetS l yX2_has wsX2_has ({ frames := 0, cells := 0, slots := 0, locals := 0 } : Room) (dC, dI) vwCl (wR h hc kA w mo n f) ([(kA, .int)]) [.ref h, .int i] (if okI i n then 1 else 0) := by
  refine MetS.of (cc := cX2_has) (maxL := 2) (ret := (some .boolean)) (by decide) rfl (Nat.le_of_ble_eq_true rfl) rfl ?_
  intro p e s m below meth cd ls hx hb hr hlk hml hown hts hK hP hl
  have hl : lv_has ls 2 [(0, .ref h), (1, .int i)] := hl
  refine lv_iload_n hx hb dX2_has_0 rfl (lv_at hl 1 rfl) ?_
  refine lv_if_lt (tgt := 16) hx hb dX2_has_1 (by decide) (fun c_1 => ?_) (fun c_1 => ?_)
  · refine lv_iconst (v := nI 0) hx hb dX2_has_16 (by decide) ?_
    exact retSz hx hb hr hlk dX2_has_17 rfl ((if_neg (fun q => q.1 c_1)).symm)
  · refine lv_iload_n hx hb dX2_has_4 rfl (lv_at hl 1 rfl) ?_
    refine lv_aload_n hx hb dX2_has_5 rfl (lv_at hl 0 rfl) ?_
    refine va_get (D := (dC, dI)) (ci := 2) (v := .int (nI n)) (C := RX2) (T := TX2) (N := 4) hx hb hts inX2_has_X2 hown hK hP (0) rfl rfl 3 (by decide) (hts _ lkX2_has_26) (fun _ h9 => h9) rfl dX2_has_6 ?_
    refine lv_icmp_ge (tgt := 16) hx hb dX2_has_9 (by decide) (fun c_9 => ?_) (fun c_9 => ?_)
    · refine lv_iconst (v := nI 0) hx hb dX2_has_16 (by decide) ?_
      exact retSz hx hb hr hlk dX2_has_17 rfl ((if_neg (fun q => q.2 c_9)).symm)
    · refine lv_iconst (v := nI 1) hx hb dX2_has_12 (by decide) ?_
      refine lv_goto (tgt := 17) hx hb dX2_has_13 (by decide) ?_
      exact retSz hx hb hr hlk dX2_has_17 rfl ((if_pos ⟨c_1, c_9⟩).symm)
theorem lkX2_hasColumn_13 : Cond.fieldLink RX2 13 "QuorumRegister$Rows" "width" "I" ∈ wsX2_hasColumn := by decide +kernel
theorem inX2_hasColumn_X2 : ∀ w ∈ wsX20, w ∈ wsX2_hasColumn := by decide +kernel
set_option maxHeartbeats 4000000 in
set_option maxRecDepth 100000 in
/-- X2_hasColumn(i) -/
theorem k_X2_hasColumn (l : Launch) (dC : Nat → ClassId) (dI : Nat → Nat → Nat) (h hc : Nat) (kA : ClassId) (w mo n : Nat) (f : Nat → Int32) (i : Int32) : MetS l yX2_hasColumn wsX2_hasColumn ({ frames := 0, cells := 0, slots := 0, locals := 0 } : Room) (dC, dI) vwCl (wR h hc kA w mo n f) ([(kA, .int)]) [.ref h, .int i] (if okI i w then 1 else 0) := by
  refine MetS.of (cc := cX2_hasColumn) (maxL := 2) (ret := (some .boolean)) (by decide) rfl (Nat.le_of_ble_eq_true rfl) rfl ?_
  intro p e s m below meth cd ls hx hb hr hlk hml hown hts hK hP hl
  have hl : lv_has ls 2 [(0, .ref h), (1, .int i)] := hl
  refine lv_iload_n hx hb dX2_hasColumn_0 rfl (lv_at hl 1 rfl) ?_
  refine lv_if_lt (tgt := 16) hx hb dX2_hasColumn_1 (by decide) (fun c_1 => ?_) (fun c_1 => ?_)
  · refine lv_iconst (v := nI 0) hx hb dX2_hasColumn_16 (by decide) ?_
    exact retSz hx hb hr hlk dX2_hasColumn_17 rfl ((if_neg (fun q => q.1 c_1)).symm)
  · refine lv_iload_n hx hb dX2_hasColumn_4 rfl (lv_at hl 1 rfl) ?_
    refine lv_aload_n hx hb dX2_hasColumn_5 rfl (lv_at hl 0 rfl) ?_
    refine va_get (D := (dC, dI)) (ci := 2) (v := .int (nI w)) (C := RX2) (T := TX2) (N := 4) hx hb hts inX2_hasColumn_X2 hown hK hP (0) rfl rfl 0 (by decide) (hts _ lkX2_hasColumn_13) (fun _ h9 => h9) rfl dX2_hasColumn_6 ?_
    refine lv_icmp_ge (tgt := 16) hx hb dX2_hasColumn_9 (by decide) (fun c_9 => ?_) (fun c_9 => ?_)
    · refine lv_iconst (v := nI 0) hx hb dX2_hasColumn_16 (by decide) ?_
      exact retSz hx hb hr hlk dX2_hasColumn_17 rfl ((if_neg (fun q => q.2 c_9)).symm)
    · refine lv_iconst (v := nI 1) hx hb dX2_hasColumn_12 (by decide) ?_
      refine lv_goto (tgt := 17) hx hb dX2_hasColumn_13 (by decide) ?_
      exact retSz hx hb hr hlk dX2_hasColumn_17 rfl ((if_pos ⟨c_1, c_9⟩).symm)
theorem lkX2_cell_22 : Cond.fieldLink RX2 22 "QuorumRegister$Rows" "cells" "[I" ∈ wsX2_cell := by decide +kernel
theorem inX2_cell_X2 : ∀ w ∈ wsX20, w ∈ wsX2_cell := by decide +kernel
theorem lkX2_cell_13 : Cond.fieldLink RX2 13 "QuorumRegister$Rows" "width" "I" ∈ wsX2_cell := by decide +kernel
set_option maxHeartbeats 4000000 in
set_option maxRecDepth 100000 in
/-- Rows.cell(i, column) -/
theorem k_X2_cell (l : Launch) (dC : Nat → ClassId) (dI : Nat → Nat → Nat) (h hc : Nat) (kA : ClassId) (w mo n : Nat) (f : Nat → Int32) (hn : n ≤ mo) (hmo : mo < 2 ^ 31) (hw : w < 2 ^ 31) (hwm : w * mo < 2 ^ 31) (p0 p1 : Int32) : MetS l yX2_cell wsX2_cell ({ frames := 1, cells := 0, slots := 0, locals := 21 } : Room) (dC, dI) vwCl (wR h hc kA w mo n f) ([(kA, .int)]) [.ref h, .int p0, .int p1] (if okI p0 n then (if okI p1 w then f (p0.toNatClampNeg * w + p1.toNatClampNeg) else 0) else (-1)) := by
  refine MetS.of (cc := cX2_cell) (maxL := 3) (ret := (some .int)) (by decide) rfl (Nat.le_of_ble_eq_true rfl) rfl ?_
  intro p e s m below meth cd ls hx hb hr hlk hml hown hts hK hP hl
  have hl : lv_has ls 3 [(0, .ref h), (1, .int p0), (2, .int p1)] := hl
  refine lv_aload_n hx hb dX2_cell_0 rfl (lv_at hl 0 rfl) ?_
  refine lv_iload_n hx hb dX2_cell_1 rfl (lv_at hl 1 rfl) ?_
  refine goS (va_runV (rm := ({ frames := 0, cells := 0, slots := 0, locals := 0 } : Room)) (As := [.int p0]) (rest := []) ⟨hx, hb, hml, hown, hts⟩ (MetS.at (k_X2_has l dC dI h hc kA w mo n f p0)) (cwV 1 hts gX2_cell_X2_has rfl rfl rfl (by decide +kernel) ⟨Nat.le_of_ble_eq_true rfl, Nat.le_of_ble_eq_true rfl⟩) (preSV hK hP (va_recv hK hP (ci := 2) (q0 := 0) rfl rfl)) rfl rfl hl.1 rfl (lv_room (Nat.le_of_ble_eq_true rfl)) dX2_cell_2 ⟨Nat.le_of_ble_eq_true rfl, Nat.le_of_ble_eq_true rfl⟩) ?_
  refine lv_if_ne (tgt := 10) hx hb dX2_cell_5 (by decide) (fun c_5 => ?_) (fun c_5 => ?_)
  · have c_5 := it_yes c_5
    refine lv_aload_n hx hb dX2_cell_10 rfl (lv_at hl 0 rfl) ?_
    refine lv_iload_n hx hb dX2_cell_11 rfl (lv_at hl 2 rfl) ?_
    refine goS (va_runV (rm := ({ frames := 0, cells := 0, slots := 0, locals := 0 } : Room)) (As := [.int p1]) (rest := []) ⟨hx, hb, hml, hown, hts⟩ (MetS.at (k_X2_hasColumn l dC dI h hc kA w mo n f p1)) (cwV 1 hts gX2_cell_X2_hasColumn rfl rfl rfl (by decide +kernel) ⟨Nat.le_of_ble_eq_true rfl, Nat.le_of_ble_eq_true rfl⟩) (preSV hK hP (va_recv hK hP (ci := 2) (q0 := 0) rfl rfl)) rfl rfl hl.1 rfl (lv_room (Nat.le_of_ble_eq_true rfl)) dX2_cell_12 ⟨Nat.le_of_ble_eq_true rfl, Nat.le_of_ble_eq_true rfl⟩) ?_
    refine lv_if_eq (tgt := 34) hx hb dX2_cell_15 (by decide) (fun c_15 => ?_) (fun c_15 => ?_)
    · have c_15 := it_no c_15
      refine lv_iconst (v := nI 0) hx hb dX2_cell_34 (by decide) ?_
      exact retS hx hb hr hlk dX2_cell_35 (by rw [if_pos c_5, if_neg c_15]; rfl)
    · have c_15 := it_yes c_15
      obtain ⟨i, hi, rfl⟩ := okI_of c_5 (Nat.lt_of_le_of_lt hn hmo)
      obtain ⟨j, hj, rfl⟩ := okI_of c_15 hw
      refine lv_aload_n hx hb dX2_cell_18 rfl (lv_at hl 0 rfl) ?_
      refine va_get (D := (dC, dI)) (ci := 2) (v := .ref hc) (C := RX2) (T := TX2) (N := 4) hx hb hts inX2_cell_X2 hown hK hP (0) rfl rfl 2 (by decide) (hts _ lkX2_cell_22) (fun _ h9 => h9) rfl dX2_cell_19 ?_
      refine lv_iload_n hx hb dX2_cell_22 rfl (lv_at hl 1 rfl) ?_
      refine lv_aload_n hx hb dX2_cell_23 rfl (lv_at hl 0 rfl) ?_
      refine va_get (D := (dC, dI)) (ci := 2) (v := .int (nI w)) (C := RX2) (T := TX2) (N := 4) hx hb hts inX2_cell_X2 hown hK hP (0) rfl rfl 0 (by decide) (hts _ lkX2_cell_13) (fun _ h9 => h9) rfl dX2_cell_24 ?_
      refine lv_imul hx hb dX2_cell_27 ?_
      refine qtop (y := nI (i * w)) (pk_mul _ _) ?_
      refine lv_iload_n hx hb dX2_cell_28 rfl (lv_at hl 2 rfl) ?_
      refine lv_iadd hx hb dX2_cell_29 ?_
      refine qtop (y := nI ((i * w) + j)) (nI_add _ _) ?_
      refine q_iald hx hb hK hP (1) 0 (j := (i * w) + j) rfl rfl (rows_ix hi hn hj) hwm dX2_cell_30 ?_
      refine lv_goto (tgt := 35) hx hb dX2_cell_31 (by decide) ?_
      exact retS hx hb hr hlk dX2_cell_35 (by rw [if_pos c_5, if_pos c_15, nI_clamp (by omega), nI_clamp (by omega)])
  · have c_5 := it_no c_5
    refine lv_iconst (v := (-1)) hx hb dX2_cell_8 (by decide) ?_
    exact retS hx hb hr hlk dX2_cell_9 ((if_neg c_5).symm)
theorem lkX2_add_26 : Cond.fieldLink RX2 26 "QuorumRegister$Rows" "count" "I" ∈ wsX2_add := by decide +kernel
theorem inX2_add_X2 : ∀ w ∈ wsX20, w ∈ wsX2_add := by decide +kernel
theorem lkX2_add_19 : Cond.fieldLink RX2 19 "QuorumRegister$Rows" "most" "I" ∈ wsX2_add := by decide +kernel
set_option maxHeartbeats 4000000 in
set_option maxRecDepth 100000 in
/-- Rows.add(), with room left -/
theorem k_X2_add (l : Launch) (dC : Nat → ClassId) (dI : Nat → Nat → Nat) (h hc : Nat) (kA : ClassId) (w mo n : Nat) (f : Nat → Int32) (hn : n < mo) (hmo : mo < 2 ^ 31) : MetI l yX2_add wsX2_add ({ frames := 0, cells := 0, slots := 0, locals := 0 } : Room) (dC, dI) vwCl (wR h hc kA w mo n f) ([(kA, .int)]) [.ref h] (nI n) (wR h hc kA w mo (n + 1) f) := by
  refine MetI.of (cc := cX2_add) (maxL := 1) (ret := (some .int)) (by decide) rfl (Nat.le_of_ble_eq_true rfl) rfl ?_
  intro p e s m below meth cd ls A hx hb hr hlk hml hown hts hK hP hD hS hA hl
  have hl : lv_has ls 1 [(0, .ref h)] := hl
  refine lv_aload_n hx hb dX2_add_0 rfl (lv_at hl 0 rfl) ?_
  refine va_get (D := (dC, dI)) (ci := 2) (v := .int (nI n)) (C := RX2) (T := TX2) (N := 4) hx hb hts inX2_add_X2 hown hK hP (0) rfl rfl 3 (by decide) (hts _ lkX2_add_26) (fun _ h9 => h9) rfl dX2_add_1 ?_
  refine lv_aload_n hx hb dX2_add_4 rfl (lv_at hl 0 rfl) ?_
  refine va_get (D := (dC, dI)) (ci := 2) (v := .int (nI mo)) (C := RX2) (T := TX2) (N := 4) hx hb hts inX2_add_X2 hown hK hP (0) rfl rfl 1 (by decide) (hts _ lkX2_add_19) (fun _ h9 => h9) rfl dX2_add_5 ?_
  refine lv_icmp_lt (tgt := 13) hx hb dX2_add_8 (by decide) (fun c_8 => ?_) (fun c_8 => ?_)
  · refine lv_aload_n hx hb dX2_add_13 rfl (lv_at hl 0 rfl) ?_
    refine lv_dup hx hb dX2_add_14 rfl ?_
    refine va_get (D := (dC, dI)) (ci := 2) (v := .int (nI n)) (C := RX2) (T := TX2) (N := 4) hx hb hts inX2_add_X2 hown hK hP (0) rfl rfl 3 (by decide) (hts _ lkX2_add_26) (fun _ h9 => h9) rfl dX2_add_15 ?_
    refine lv_iconst (v := nI 1) hx hb dX2_add_18 (by decide) ?_
    refine lv_iadd hx hb dX2_add_19 ?_
    refine qtop (y := nI (n + 1)) (nI_add _ _) ?_
    refine q_put (D := (dC, dI)) (ci := 2) (v := .int (nI (n + 1))) (ty := .int) (C := RX2) (T := TX2) (N := 4) (ws' := (wR h hc kA w mo (n + 1) f)) hx hb hts inX2_add_X2 tyX2 tyX2_ok nmX2 hown hK hP hD hS (0) rfl rfl 3 (by decide) (hts _ lkX2_add_26) (fun _ h9 => h9) rfl (by decide +kernel) rfl rfl (Nat.le_of_ble_eq_true rfl) rfl dX2_add_20 (fun H locs hP hD hS => ?_)
    refine lv_aload_n hx hb dX2_add_23 rfl (lv_at hl 0 rfl) ?_
    refine va_get (D := (dC, dI)) (ci := 2) (v := .int (nI (n + 1))) (C := RX2) (T := TX2) (N := 4) hx hb hts inX2_add_X2 hown hK hP (0) rfl rfl 3 (by decide) (hts _ lkX2_add_26) (fun _ h9 => h9) rfl dX2_add_24 ?_
    refine lv_iconst (v := nI 1) hx hb dX2_add_27 (by decide) ?_
    refine lv_isub hx hb dX2_add_28 ?_
    exact retI hx hb hr hlk dX2_add_29 hS (hP) (nI_pred n)
  · exact absurd (nI_lt hn hmo) c_8
theorem lkX2_set_22 : Cond.fieldLink RX2 22 "QuorumRegister$Rows" "cells" "[I" ∈ wsX2_set := by decide +kernel
theorem inX2_set_X2 : ∀ w ∈ wsX20, w ∈ wsX2_set := by decide +kernel
theorem lkX2_set_13 : Cond.fieldLink RX2 13 "QuorumRegister$Rows" "width" "I" ∈ wsX2_set := by decide +kernel
set_option maxHeartbeats 4000000 in
set_option maxRecDepth 100000 in
/-- Rows.set(i, column, x), i and column in range -/
theorem k_X2_set (l : Launch) (dC : Nat → ClassId) (dI : Nat → Nat → Nat) (h hc : Nat) (kA : ClassId) (w mo n : Nat) (f : Nat → Int32) (hn : n ≤ mo) (hmo : mo < 2 ^ 31) (hw : w < 2 ^ 31) (hwm : w * mo < 2 ^ 31) (i j : Nat) (hi : i < n) (hj : j < w) (x : Int32) : MetV l yX2_set wsX2_set ({ frames := 1, cells := 0, slots := 0, locals := 21 } : Room) (dC, dI) vwCl (wR h hc kA w mo n f) ([(kA, .int)]) [.ref h, .int (nI i), .int (nI j), .int x] (wR h hc kA w mo n (upd f (i * w + j) x)) := by
  refine MetV.of (cc := cX2_set) (maxL := 4) (ret := none) (by decide) rfl (Nat.le_of_ble_eq_true rfl) rfl ?_
  intro p e s m below meth cd ls A hx hb hr hlk hml hown hts hK hP hD hS hA hl
  have hl : lv_has ls 4 [(0, .ref h), (1, .int (nI i)), (2, .int (nI j)), (3, .int x)] := hl
  refine lv_aload_n hx hb dX2_set_0 rfl (lv_at hl 0 rfl) ?_
  refine lv_iload_n hx hb dX2_set_1 rfl (lv_at hl 1 rfl) ?_
  refine goS (va_runV (rm := ({ frames := 0, cells := 0, slots := 0, locals := 0 } : Room)) (As := [.int (nI i)]) (rest := []) ⟨hx, hb, hml, hown, hts⟩ (MetS.at (k_X2_has l dC dI h hc kA w mo n f (nI i))) (cwV 1 hts gX2_set_X2_has rfl rfl rfl (by decide +kernel) ⟨Nat.le_of_ble_eq_true rfl, Nat.le_of_ble_eq_true rfl⟩) (preSV hK hP (va_recv hK hP (ci := 2) (q0 := 0) rfl rfl)) rfl rfl hl.1 rfl (lv_room (Nat.le_of_ble_eq_true rfl)) dX2_set_2 ⟨Nat.le_of_ble_eq_true rfl, Nat.le_of_ble_eq_true rfl⟩) ?_
  refine lv_if_eq (tgt := 30) hx hb dX2_set_5 (by decide) (fun c_5 => ?_) (fun c_5 => ?_)
  · have c_5 := it_no c_5
    exact absurd (okI_nI hi (by omega)) c_5
  · have c_5 := it_yes c_5
    refine lv_aload_n hx hb dX2_set_8 rfl (lv_at hl 0 rfl) ?_
    refine lv_iload_n hx hb dX2_set_9 rfl (lv_at hl 2 rfl) ?_
    refine goS (va_runV (rm := ({ frames := 0, cells := 0, slots := 0, locals := 0 } : Room)) (As := [.int (nI j)]) (rest := []) ⟨hx, hb, hml, hown, hts⟩ (MetS.at (k_X2_hasColumn l dC dI h hc kA w mo n f (nI j))) (cwV 1 hts gX2_set_X2_hasColumn rfl rfl rfl (by decide +kernel) ⟨Nat.le_of_ble_eq_true rfl, Nat.le_of_ble_eq_true rfl⟩) (preSV hK hP (va_recv hK hP (ci := 2) (q0 := 0) rfl rfl)) rfl rfl hl.1 rfl (lv_room (Nat.le_of_ble_eq_true rfl)) dX2_set_10 ⟨Nat.le_of_ble_eq_true rfl, Nat.le_of_ble_eq_true rfl⟩) ?_
    refine lv_if_eq (tgt := 30) hx hb dX2_set_13 (by decide) (fun c_13 => ?_) (fun c_13 => ?_)
    · have c_13 := it_no c_13
      exact absurd (okI_nI hj hw) c_13
    · have c_13 := it_yes c_13
      refine lv_aload_n hx hb dX2_set_16 rfl (lv_at hl 0 rfl) ?_
      refine va_get (D := (dC, dI)) (ci := 2) (v := .ref hc) (C := RX2) (T := TX2) (N := 4) hx hb hts inX2_set_X2 hown hK hP (0) rfl rfl 2 (by decide) (hts _ lkX2_set_22) (fun _ h9 => h9) rfl dX2_set_17 ?_
      refine lv_iload_n hx hb dX2_set_20 rfl (lv_at hl 1 rfl) ?_
      refine lv_aload_n hx hb dX2_set_21 rfl (lv_at hl 0 rfl) ?_
      refine va_get (D := (dC, dI)) (ci := 2) (v := .int (nI w)) (C := RX2) (T := TX2) (N := 4) hx hb hts inX2_set_X2 hown hK hP (0) rfl rfl 0 (by decide) (hts _ lkX2_set_13) (fun _ h9 => h9) rfl dX2_set_22 ?_
      refine lv_imul hx hb dX2_set_25 ?_
      refine qtop (y := nI (i * w)) (pk_mul _ _) ?_
      refine lv_iload_n hx hb dX2_set_26 rfl (lv_at hl 2 rfl) ?_
      refine lv_iadd hx hb dX2_set_27 ?_
      refine qtop (y := nI ((i * w) + j)) (nI_add _ _) ?_
      refine lv_iload_n hx hb dX2_set_28 rfl (lv_at hl 3 rfl) ?_
      refine q_iast (ws' := (wR h hc kA w mo n (upd f ((i * w) + j) x))) hx hb hK hP hD hS (1) 0 (j := (i * w) + j) rfl rfl (rows_ix hi hn hj) hwm rfl dX2_set_29 (fun H locs hP hD hS => ?_)
      exact retV hx hb hr hlk dX2_set_30 hS (hP)
theorem lkX2_addCopy_22 : Cond.fieldLink RX2 22 "QuorumRegister$Rows" "cells" "[I" ∈ wsX2_addCopy := by decide +kernel
theorem inX2_addCopy_X2 : ∀ w ∈ wsX20, w ∈ wsX2_addCopy := by decide +kernel
theorem lkX2_addCopy_13 : Cond.fieldLink RX2 13 "QuorumRegister$Rows" "width" "I" ∈ wsX2_addCopy := by decide +kernel
theorem wdX2_addCopy_ac1 : Cond.methodLink RX2 40 arraycopyName ∈ wsX2_addCopy := by decide +kernel
theorem wdX2_addCopy_ac2 : Cond.native arraycopyName ∈ wsX2_addCopy := by decide +kernel
theorem wdX2_addCopy_ac3 : Cond.static arraycopyName ∈ wsX2_addCopy := by decide +kernel
theorem wdX2_addCopy_ac4 : Cond.initialized "java/lang/System" ∈ wsX2_addCopy := by decide +kernel
set_option maxHeartbeats 4000000 in
set_option maxRecDepth 100000 in
/-- Rows.addCopy(i), i in range, with room left -/
theorem k_X2_addCopy (l : Launch) (dC : Nat → ClassId) (dI : Nat → Nat → Nat) (h hc : Nat) (kA : ClassId) (w mo n : Nat) (f : Nat → Int32) (hn : n < mo) (hmo : mo < 2 ^ 31) (hwm : w * mo < 2 ^ 31) (i : Nat) (hi : i < n) : MetV l yX2_addCopy wsX2_addCopy ({ frames := 1, cells := 0, slots := 0, locals := 21 } : Room) (dC, dI) vwCl (wR h hc kA w mo n f) ([(kA, .int)]) [.ref h, .int (nI i)] (wR h hc kA w mo (n + 1) (va_cpy f f (i * w) (n * w) w)) := by
  refine MetV.of (cc := cX2_addCopy) (maxL := 3) (ret := none) (by decide) rfl (Nat.le_of_ble_eq_true rfl) rfl ?_
  intro p e s m below meth cd ls A hx hb hr hlk hml hown hts hK hP hD hS hA hl
  have hl : lv_has ls 3 [(0, .ref h), (1, .int (nI i))] := hl
  refine lv_aload_n hx hb dX2_addCopy_0 rfl (lv_at hl 0 rfl) ?_
  refine lv_iload_n hx hb dX2_addCopy_1 rfl (lv_at hl 1 rfl) ?_
  refine goS (va_runV (rm := ({ frames := 0, cells := 0, slots := 0, locals := 0 } : Room)) (As := [.int (nI i)]) (rest := []) ⟨hx, hb, hml, hown, hts⟩ (MetS.at (k_X2_has l dC dI h hc kA w mo n f (nI i))) (cwV 1 hts gX2_addCopy_X2_has rfl rfl rfl (by decide +kernel) ⟨Nat.le_of_ble_eq_true rfl, Nat.le_of_ble_eq_true rfl⟩) (preSV hK hP (va_recv hK hP (ci := 2) (q0 := 0) rfl rfl)) rfl rfl hl.1 rfl (lv_room (Nat.le_of_ble_eq_true rfl)) dX2_addCopy_2 ⟨Nat.le_of_ble_eq_true rfl, Nat.le_of_ble_eq_true rfl⟩) ?_
  refine lv_if_ne (tgt := 9) hx hb dX2_addCopy_5 (by decide) (fun c_5 => ?_) (fun c_5 => ?_)
  · have c_5 := it_yes c_5
    refine lv_aload_n hx hb dX2_addCopy_9 rfl (lv_at hl 0 rfl) ?_
    refine goI (ws := (wR h hc kA w mo n f)) (ws' := (wR h hc kA w mo (n + 1) f)) (qFit_all rfl) hP hD hS hA (va_runV (rm := ({ frames := 0, cells := 0, slots := 0, locals := 0 } : Room)) (As := []) (rest := []) ⟨hx, hb, hml, hown, hts⟩ (MetI.at (k_X2_add l dC dI h hc kA w mo n f hn hmo) s.heap.size) (cwV 0 hts gX2_addCopy_X2_add rfl rfl rfl (by decide +kernel) ⟨Nat.le_of_ble_eq_true rfl, Nat.le_of_ble_eq_true rfl⟩) (preWV hK hP hD (va_recv hK hP (ci := 2) (q0 := 0) rfl rfl)) rfl rfl hl.1 rfl (lv_room (Nat.le_of_ble_eq_true rfl)) dX2_addCopy_10 ⟨Nat.le_of_ble_eq_true rfl, Nat.le_of_ble_eq_true rfl⟩) (fun H locs hP hD hS => ?_)
    refine lv_istore_n (lv' := [(2, .int (nI n)), (0, .ref h), (1, .int (nI i))]) hx hb dX2_addCopy_13 rfl hl (by decide) rfl (fun ls hl => ?_)
    refine lv_iload_n hx hb dX2_addCopy_14 rfl (lv_at hl 0 rfl) ?_
    refine lv_if_lt (tgt := 45) hx hb dX2_addCopy_15 (by decide) (fun c_15 => ?_) (fun c_15 => ?_)
    · exact absurd c_15 (nI_pos (by omega))
    · refine lv_aload_n hx hb dX2_addCopy_18 rfl (lv_at hl 1 rfl) ?_
      refine va_get (D := (dC, dI)) (ci := 2) (v := .ref hc) (C := RX2) (T := TX2) (N := 4) hx hb hts inX2_addCopy_X2 hown hK hP (0) rfl rfl 2 (by decide) (hts _ lkX2_addCopy_22) (fun _ h9 => h9) rfl dX2_addCopy_19 ?_
      refine lv_iload_n hx hb dX2_addCopy_22 rfl (lv_at hl 2 rfl) ?_
      refine lv_aload_n hx hb dX2_addCopy_23 rfl (lv_at hl 1 rfl) ?_
      refine va_get (D := (dC, dI)) (ci := 2) (v := .int (nI w)) (C := RX2) (T := TX2) (N := 4) hx hb hts inX2_addCopy_X2 hown hK hP (0) rfl rfl 0 (by decide) (hts _ lkX2_addCopy_13) (fun _ h9 => h9) rfl dX2_addCopy_24 ?_
      refine lv_imul hx hb dX2_addCopy_27 ?_
      refine qtop (y := nI (i * w)) (pk_mul _ _) ?_
      refine lv_aload_n hx hb dX2_addCopy_28 rfl (lv_at hl 1 rfl) ?_
      refine va_get (D := (dC, dI)) (ci := 2) (v := .ref hc) (C := RX2) (T := TX2) (N := 4) hx hb hts inX2_addCopy_X2 hown hK hP (0) rfl rfl 2 (by decide) (hts _ lkX2_addCopy_22) (fun _ h9 => h9) rfl dX2_addCopy_29 ?_
      refine lv_iload_n hx hb dX2_addCopy_32 rfl (lv_at hl 0 rfl) ?_
      refine lv_aload_n hx hb dX2_addCopy_33 rfl (lv_at hl 1 rfl) ?_
      refine va_get (D := (dC, dI)) (ci := 2) (v := .int (nI w)) (C := RX2) (T := TX2) (N := 4) hx hb hts inX2_addCopy_X2 hown hK hP (0) rfl rfl 0 (by decide) (hts _ lkX2_addCopy_13) (fun _ h9 => h9) rfl dX2_addCopy_34 ?_
      refine lv_imul hx hb dX2_addCopy_37 ?_
      refine qtop (y := nI (n * w)) (pk_mul _ _) ?_
      refine lv_aload_n hx hb dX2_addCopy_38 rfl (lv_at hl 1 rfl) ?_
      refine va_get (D := (dC, dI)) (ci := 2) (v := .int (nI w)) (C := RX2) (T := TX2) (N := 4) hx hb hts inX2_addCopy_X2 hown hK hP (0) rfl rfl 0 (by decide) (hts _ lkX2_addCopy_13) (fun _ h9 => h9) rfl dX2_addCopy_39 ?_
      refine q_copy (ws' := (wR h hc kA w mo (n + 1) (va_cpy f f (i * w) (n * w) w))) hx hb (hml.trans hl.1.symm) hown (hts _ wdX2_addCopy_ac1) (hts _ wdX2_addCopy_ac2) (hts _ wdX2_addCopy_ac3) (hts _ wdX2_addCopy_ac4) hK hP hD hS (1) (1) 0 0 (sp := i * w) (dp := n * w) (n := w) rfl rfl rfl rfl (cp_lt (by omega)) (cp_lt hn) hwm hwm (Nat.le_of_ble_eq_true rfl) (Nat.le_of_ble_eq_true rfl) rfl dX2_addCopy_42 (fun H locs hP hD hS => ?_)
      exact retV hx hb hr hlk dX2_addCopy_45 hS (hP)
  · have c_5 := it_no c_5
    exact absurd (okI_nI hi (by omega)) c_5
theorem lkX2_remove_13 : Cond.fieldLink RX2 13 "QuorumRegister$Rows" "width" "I" ∈ wsX2_remove := by decide +kernel
theorem inX2_remove_X2 : ∀ w ∈ wsX20, w ∈ wsX2_remove := by decide +kernel
theorem lkX2_remove_22 : Cond.fieldLink RX2 22 "QuorumRegister$Rows" "cells" "[I" ∈ wsX2_remove := by decide +kernel
theorem lkX2_remove_26 : Cond.fieldLink RX2 26 "QuorumRegister$Rows" "count" "I" ∈ wsX2_remove := by decide +kernel
theorem wdX2_remove_ac1 : Cond.methodLink RX2 40 arraycopyName ∈ wsX2_remove := by decide +kernel
theorem wdX2_remove_ac2 : Cond.native arraycopyName ∈ wsX2_remove := by decide +kernel
theorem wdX2_remove_ac3 : Cond.static arraycopyName ∈ wsX2_remove := by decide +kernel
theorem wdX2_remove_ac4 : Cond.initialized "java/lang/System" ∈ wsX2_remove := by decide +kernel
set_option maxHeartbeats 4000000 in
set_option maxRecDepth 100000 in
/-- Rows.remove(i), i in range -/
theorem k_X2_remove (l : Launch) (dC : Nat → ClassId) (dI : Nat → Nat → Nat) (h hc : Nat) (kA : ClassId) (w mo n : Nat) (f : Nat → Int32) (hn : n ≤ mo) (hmo : mo < 2 ^ 31) (hwm : w * mo < 2 ^ 31) (i : Nat) (hi : i < n) : MetV l yX2_remove wsX2_remove ({ frames := 1, cells := 0, slots := 0, locals := 21 } : Room) (dC, dI) vwCl (wR h hc kA w mo n f) ([(kA, .int)]) [.ref h, .int (nI i)] (wR h hc kA w mo (n - 1) (va_cpy f f ((i + 1) * w) (i * w) (n * w - (i + 1) * w))) := by
  refine MetV.of (cc := cX2_remove) (maxL := 3) (ret := none) (by decide) rfl (Nat.le_of_ble_eq_true rfl) rfl ?_
  intro p e s m below meth cd ls A hx hb hr hlk hml hown hts hK hP hD hS hA hl
  have hl : lv_has ls 3 [(0, .ref h), (1, .int (nI i))] := hl
  refine lv_aload_n hx hb dX2_remove_0 rfl (lv_at hl 0 rfl) ?_
  refine lv_iload_n hx hb dX2_remove_1 rfl (lv_at hl 1 rfl) ?_
  refine goS (va_runV (rm := ({ frames := 0, cells := 0, slots := 0, locals := 0 } : Room)) (As := [.int (nI i)]) (rest := []) ⟨hx, hb, hml, hown, hts⟩ (MetS.at (k_X2_has l dC dI h hc kA w mo n f (nI i))) (cwV 1 hts gX2_remove_X2_has rfl rfl rfl (by decide +kernel) ⟨Nat.le_of_ble_eq_true rfl, Nat.le_of_ble_eq_true rfl⟩) (preSV hK hP (va_recv hK hP (ci := 2) (q0 := 0) rfl rfl)) rfl rfl hl.1 rfl (lv_room (Nat.le_of_ble_eq_true rfl)) dX2_remove_2 ⟨Nat.le_of_ble_eq_true rfl, Nat.le_of_ble_eq_true rfl⟩) ?_
  refine lv_if_ne (tgt := 9) hx hb dX2_remove_5 (by decide) (fun c_5 => ?_) (fun c_5 => ?_)
  · have c_5 := it_yes c_5
    refine lv_iload_n hx hb dX2_remove_9 rfl (lv_at hl 1 rfl) ?_
    refine lv_iconst (v := nI 1) hx hb dX2_remove_10 (by decide) ?_
    refine lv_iadd hx hb dX2_remove_11 ?_
    refine qtop (y := nI (i + 1)) (nI_add _ _) ?_
    refine lv_aload_n hx hb dX2_remove_12 rfl (lv_at hl 0 rfl) ?_
    refine va_get (D := (dC, dI)) (ci := 2) (v := .int (nI w)) (C := RX2) (T := TX2) (N := 4) hx hb hts inX2_remove_X2 hown hK hP (0) rfl rfl 0 (by decide) (hts _ lkX2_remove_13) (fun _ h9 => h9) rfl dX2_remove_13 ?_
    refine lv_imul hx hb dX2_remove_16 ?_
    refine qtop (y := nI ((i + 1) * w)) (pk_mul _ _) ?_
    refine lv_istore_n (lv' := [(2, .int (nI ((i + 1) * w))), (0, .ref h), (1, .int (nI i))]) hx hb dX2_remove_17 rfl hl (by decide) rfl (fun ls hl => ?_)
    refine lv_aload_n hx hb dX2_remove_18 rfl (lv_at hl 1 rfl) ?_
    refine va_get (D := (dC, dI)) (ci := 2) (v := .ref hc) (C := RX2) (T := TX2) (N := 4) hx hb hts inX2_remove_X2 hown hK hP (0) rfl rfl 2 (by decide) (hts _ lkX2_remove_22) (fun _ h9 => h9) rfl dX2_remove_19 ?_
    refine lv_iload_n hx hb dX2_remove_22 rfl (lv_at hl 0 rfl) ?_
    refine lv_aload_n hx hb dX2_remove_23 rfl (lv_at hl 1 rfl) ?_
    refine va_get (D := (dC, dI)) (ci := 2) (v := .ref hc) (C := RX2) (T := TX2) (N := 4) hx hb hts inX2_remove_X2 hown hK hP (0) rfl rfl 2 (by decide) (hts _ lkX2_remove_22) (fun _ h9 => h9) rfl dX2_remove_24 ?_
    refine lv_iload_n hx hb dX2_remove_27 rfl (lv_at hl 2 rfl) ?_
    refine lv_aload_n hx hb dX2_remove_28 rfl (lv_at hl 1 rfl) ?_
    refine va_get (D := (dC, dI)) (ci := 2) (v := .int (nI w)) (C := RX2) (T := TX2) (N := 4) hx hb hts inX2_remove_X2 hown hK hP (0) rfl rfl 0 (by decide) (hts _ lkX2_remove_13) (fun _ h9 => h9) rfl dX2_remove_29 ?_
    refine lv_imul hx hb dX2_remove_32 ?_
    refine qtop (y := nI (i * w)) (pk_mul _ _) ?_
    refine lv_aload_n hx hb dX2_remove_33 rfl (lv_at hl 1 rfl) ?_
    refine va_get (D := (dC, dI)) (ci := 2) (v := .int (nI n)) (C := RX2) (T := TX2) (N := 4) hx hb hts inX2_remove_X2 hown hK hP (0) rfl rfl 3 (by decide) (hts _ lkX2_remove_26) (fun _ h9 => h9) rfl dX2_remove_34 ?_
    refine lv_aload_n hx hb dX2_remove_37 rfl (lv_at hl 1 rfl) ?_
    refine va_get (D := (dC, dI)) (ci := 2) (v := .int (nI w)) (C := RX2) (T := TX2) (N := 4) hx hb hts inX2_remove_X2 hown hK hP (0) rfl rfl 0 (by decide) (hts _ lkX2_remove_13) (fun _ h9 => h9) rfl dX2_remove_38 ?_
    refine lv_imul hx hb dX2_remove_41 ?_
    refine qtop (y := nI (n * w)) (pk_mul _ _) ?_
    refine lv_iload_n hx hb dX2_remove_42 rfl (lv_at hl 0 rfl) ?_
    refine lv_isub hx hb dX2_remove_43 ?_
    refine qtop (y := nI (n * w - (i + 1) * w)) (pk_sub (Nat.mul_le_mul_right w hi)) ?_
    refine q_copy (ws' := (wR h hc kA w mo n (va_cpy f f ((i + 1) * w) (i * w) (n * w - (i + 1) * w)))) hx hb (hml.trans hl.1.symm) hown (hts _ wdX2_remove_ac1) (hts _ wdX2_remove_ac2) (hts _ wdX2_remove_ac3) (hts _ wdX2_remove_ac4) hK hP hD hS (1) (1) 0 0 (sp := (i + 1) * w) (dp := i * w) (n := n * w - (i + 1) * w) rfl rfl rfl rfl (rm_a hi hn) (rm_b hi hn) hwm hwm (Nat.le_of_ble_eq_true rfl) (Nat.le_of_ble_eq_true rfl) rfl dX2_remove_44 (fun H locs hP hD hS => ?_)
    refine lv_aload_n hx hb dX2_remove_47 rfl (lv_at hl 1 rfl) ?_
    refine lv_dup hx hb dX2_remove_48 rfl ?_
    refine va_get (D := (dC, dI)) (ci := 2) (v := .int (nI n)) (C := RX2) (T := TX2) (N := 4) hx hb hts inX2_remove_X2 hown hK hP (0) rfl rfl 3 (by decide) (hts _ lkX2_remove_26) (fun _ h9 => h9) rfl dX2_remove_49 ?_
    refine lv_iconst (v := nI 1) hx hb dX2_remove_52 (by decide) ?_
    refine lv_isub hx hb dX2_remove_53 ?_
    refine qtop (y := nI (n - 1)) (pk_sub (by omega)) ?_
    refine q_put (D := (dC, dI)) (ci := 2) (v := .int (nI (n - 1))) (ty := .int) (C := RX2) (T := TX2) (N := 4) (ws' := (wR h hc kA w mo (n - 1) (va_cpy f f ((i + 1) * w) (i * w) (n * w - (i + 1) * w)))) hx hb hts inX2_remove_X2 tyX2 tyX2_ok nmX2 hown hK hP hD hS (0) rfl rfl 3 (by decide) (hts _ lkX2_remove_26) (fun _ h9 => h9) rfl (by decide +kernel) rfl rfl (Nat.le_of_ble_eq_true rfl) rfl dX2_remove_54 (fun H locs hP hD hS => ?_)
    exact retV hx hb hr hlk dX2_remove_57 hS (hP)
  · have c_5 := it_no c_5
    exact absurd (okI_nI hi (by omega)) c_5
