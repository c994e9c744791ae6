/-! QuorumRegister: begin, leave and what they call -/
set_option maxHeartbeats 4000000 in
set_option maxRecDepth 100000 in
/-- X3_isClient -/
theorem k_X3_isClient (l : Launch) (dC : Nat → ClassId) (dI : Nat → Nat → Nat) (x : Int32) : MetS l yX3_isClient wsX3_isClient ({ frames := 0, cells := 0, slots := 0, locals := 0 } : Room) (dC, dI) vwCl ([]) ([]) [.int x] (if okI x 3 then 1 else 0) := by
  refine MetS.of (cc := cX3_isClient) (maxL := 1) (ret := (some .boolean)) (by decide) rfl (Nat.le_of_ble_eq_true rfl) rfl ?_
  intro p e s m below meth cd ls hx hb hr hlk hml hown hts hK hP hl
  have hl : lv_has ls 1 [(0, .int x)] := hl
  refine lv_iload_n hx hb dX3_isClient_0 rfl (lv_at hl 0 rfl) ?_
  refine lv_if_lt (tgt := 13) hx hb dX3_isClient_1 (by decide) (fun c_1 => ?_) (fun c_1 => ?_)
  · refine lv_iconst (v := nI 0) hx hb dX3_isClient_13 (by decide) ?_
    exact retSz hx hb hr hlk dX3_isClient_14 rfl ((if_neg (fun q => q.1 c_1)).symm)
  · refine lv_iload_n hx hb dX3_isClient_4 rfl (lv_at hl 0 rfl) ?_
    refine lv_iconst (v := nI 3) hx hb dX3_isClient_5 (by decide) ?_
    refine lv_icmp_ge (tgt := 13) hx hb dX3_isClient_6 (by decide) (fun c_6 => ?_) (fun c_6 => ?_)
    · refine lv_iconst (v := nI 0) hx hb dX3_isClient_13 (by decide) ?_
      exact retSz hx hb hr hlk dX3_isClient_14 rfl ((if_neg (fun q => q.2 c_6)).symm)
    · refine lv_iconst (v := nI 1) hx hb dX3_isClient_9 (by decide) ?_
      refine lv_goto (tgt := 14) hx hb dX3_isClient_10 (by decide) ?_
      exact retSz hx hb hr hlk dX3_isClient_14 rfl ((if_pos ⟨c_1, c_6⟩).symm)
set_option maxHeartbeats 4000000 in
set_option maxRecDepth 100000 in
/-- X3_isReplica -/
theorem k_X3_isReplica (l : Launch) (dC : Nat → ClassId) (dI : Nat → Nat → Nat) (x : Int32) : MetS l yX3_isReplica wsX3_isReplica ({ frames := 0, cells := 0, slots := 0, locals := 0 } : Room) (dC, dI) vwCl ([]) ([]) [.int x] (if okI x 5 then 1 else 0) := by
  refine MetS.of (cc := cX3_isReplica) (maxL := 1) (ret := (some .boolean)) (by decide) rfl (Nat.le_of_ble_eq_true rfl) rfl ?_
  intro p e s m below meth cd ls hx hb hr hlk hml hown hts hK hP hl
  have hl : lv_has ls 1 [(0, .int x)] := hl
  refine lv_iload_n hx hb dX3_isReplica_0 rfl (lv_at hl 0 rfl) ?_
  refine lv_if_lt (tgt := 13) hx hb dX3_isReplica_1 (by decide) (fun c_1 => ?_) (fun c_1 => ?_)
  · refine lv_iconst (v := nI 0) hx hb dX3_isReplica_13 (by decide) ?_
    exact retSz hx hb hr hlk dX3_isReplica_14 rfl ((if_neg (fun q => q.1 c_1)).symm)
  · refine lv_iload_n hx hb dX3_isReplica_4 rfl (lv_at hl 0 rfl) ?_
    refine lv_iconst (v := nI 5) hx hb dX3_isReplica_5 (by decide) ?_
    refine lv_icmp_ge (tgt := 13) hx hb dX3_isReplica_6 (by decide) (fun c_6 => ?_) (fun c_6 => ?_)
    · refine lv_iconst (v := nI 0) hx hb dX3_isReplica_13 (by decide) ?_
      exact retSz hx hb hr hlk dX3_isReplica_14 rfl ((if_neg (fun q => q.2 c_6)).symm)
    · refine lv_iconst (v := nI 1) hx hb dX3_isReplica_9 (by decide) ?_
      refine lv_goto (tgt := 14) hx hb dX3_isReplica_10 (by decide) ?_
      exact retSz hx hb hr hlk dX3_isReplica_14 rfl ((if_pos ⟨c_1, c_6⟩).symm)
theorem lkX3_isCrowded_28 : Cond.fieldLink RX3 28 "QuorumRegister" "pool" "LQuorumRegister$Rows;" ∈ wsX3_isCrowded := by decide +kernel
theorem inX3_isCrowded_X3 : ∀ w ∈ wsX30, w ∈ wsX3_isCrowded := by decide +kernel
theorem lkX3_isCrowded_64 : Cond.fieldLink RX3 64 "QuorumRegister$Rows" "count" "I" ∈ wsX3_isCrowded := by decide +kernel
theorem inX3_isCrowded_X2 : ∀ w ∈ wsX20, w ∈ wsX3_isCrowded := by decide +kernel
set_option maxHeartbeats 4000000 in
set_option maxRecDepth 100000 in
/-- isCrowded() -/
theorem k_X3_isCrowded (l : Launch) (dC : Nat → ClassId) (dI : Nat → Nat → Nat) (o : Nat → Nat) (k : Nat → ClassId) (R C : Nat → Nat → Int32) (n : Nat) (f : Nat → Int32) (d : Nat) (g : Nat → Int32) (hn : n ≤ 77) : MetS l yX3_isCrowded wsX3_isCrowded ({ frames := 0, cells := 0, slots := 0, locals := 0 } : Room) (dC, dI) vwCl (wX o k R C n f d g) (tyX k) [.ref (o 0)] (if 60 < n then 1 else 0) := by
  refine MetS.of (cc := cX3_isCrowded) (maxL := 1) (ret := (some .boolean)) (by decide) rfl (Nat.le_of_ble_eq_true rfl) rfl ?_
  intro p e s m below meth cd ls hx hb hr hlk hml hown hts hK hP hl
  have hl : lv_has ls 1 [(0, .ref (o 0))] := hl
  refine lv_aload_n hx hb dX3_isCrowded_0 rfl (lv_at hl 0 rfl) ?_
  refine va_get (D := (dC, dI)) (ci := 3) (v := .ref (o 3)) (C := RX3) (T := TX3) (N := 4) hx hb hts inX3_isCrowded_X3 hown hK hP (0) rfl rfl 2 (by decide) (hts _ lkX3_isCrowded_28) (fun _ h9 => h9) rfl dX3_isCrowded_1 ?_
  refine va_get (D := (dC, dI)) (ci := 2) (v := .int (nI n)) (C := RX2) (T := TX2) (N := 4) hx hb hts inX3_isCrowded_X2 hown hK hP (3) rfl rfl 3 (by decide) (hts _ lkX3_isCrowded_64) (fun _ h9 => h9) rfl dX3_isCrowded_4 ?_
  refine lv_bipush (v := nI 60) hx hb dX3_isCrowded_7 (by decide) ?_
  refine lv_icmp_le (tgt := 16) hx hb dX3_isCrowded_9 (by decide) (fun c_9 => ?_) (fun c_9 => ?_)
  · refine lv_iconst (v := nI 0) hx hb dX3_isCrowded_16 (by decide) ?_
    exact retSz hx hb hr hlk dX3_isCrowded_17 rfl ((if_neg (fun q => absurd c_9 (nI_ge q (by omega)))).symm)
  · refine lv_iconst (v := nI 1) hx hb dX3_isCrowded_12 (by decide) ?_
    refine lv_goto (tgt := 17) hx hb dX3_isCrowded_13 (by decide) ?_
    exact retSz hx hb hr hlk dX3_isCrowded_17 rfl ((if_pos ((Nat.lt_or_ge 60 n).elim id (fun q => absurd (nI_le q (by decide)) c_9))).symm)
theorem lkX3_send_28 : Cond.fieldLink RX3 28 "QuorumRegister" "pool" "LQuorumRegister$Rows;" ∈ wsX3_send := by decide +kernel
theorem inX3_send_X3 : ∀ w ∈ wsX30, w ∈ wsX3_send := by decide +kernel
set_option maxHeartbeats 4000000 in
set_option maxRecDepth 100000 in
/-- send(..), with room left -/
theorem k_X3_send (l : Launch) (dC : Nat → ClassId) (dI : Nat → Nat → Nat) (o : Nat → Nat) (k : Nat → ClassId) (R C : Nat → Nat → Int32) (n : Nat) (f : Nat → Int32) (d : Nat) (g : Nat → Int32) (hn : n < 77) (zk zc zr zs zt zv : Int32) : MetV l yX3_send wsX3_send ({ frames := 2, cells := 0, slots := 0, locals := 44 } : Room) (dC, dI) vwCl (wX o k R C n f d g) (tyX k) [.ref (o 0), .int zk, .int zc, .int zr, .int zs, .int zt, .int zv] (wX o k R C (n + 1) (snd6 f n zk zc zr zs zt zv) d g) := by
  refine MetV.of (cc := cX3_send) (maxL := 8) (ret := none) (by decide) rfl (Nat.le_of_ble_eq_true rfl) rfl ?_
  intro p e s m below meth cd ls A hx hb hr hlk hml hown hts hK hP hD hS hA hl
  have hl : lv_has ls 8 [(0, .ref (o 0)), (1, .int zk), (2, .int zc), (3, .int zr), (4, .int zs), (5, .int zt), (6, .int zv)] := hl
  refine lv_aload_n hx hb dX3_send_0 rfl (lv_at hl 0 rfl) ?_
  refine va_get (D := (dC, dI)) (ci := 3) (v := .ref (o 3)) (C := RX3) (T := TX3) (N := 4) hx hb hts inX3_send_X3 hown hK hP (0) rfl rfl 2 (by decide) (hts _ lkX3_send_28) (fun _ h9 => h9) rfl dX3_send_1 ?_
  refine goI (ws := (wX o k R C n f d g)) (ws' := (wX o k R C (n + 1) f d g)) (show qFit (wX o k R C n f d g) (wR (o 3) (o 4) (k 2) 6 77 n f) (wR (o 3) (o 4) (k 2) 6 77 (n + 1) f) (wX o k R C (n + 1) f d g) from qFit2 hD (k1 := 3) (k2 := 4) rfl rfl (by decide) rfl) hP hD hS hA (va_runV (rm := ({ frames := 0, cells := 0, slots := 0, locals := 0 } : Room)) (As := []) (rest := []) ⟨hx, hb, hml, hown, hts⟩ (MetI.at (k_X2_add l dC dI (o 3) (o 4) (k 2) 6 77 n f hn (Nat.le_of_ble_eq_true rfl)) s.heap.size) (cwV 0 hts gX3_send_X2_add rfl rfl rfl (by decide +kernel) ⟨Nat.le_of_ble_eq_true rfl, Nat.le_of_ble_eq_true rfl⟩) (preWV (show va_K (dC, dI) vwCl [(k 2, .int)] s from hK.sub [2] rfl) (show va_P (dC, dI) vwCl (wR (o 3) (o 4) (k 2) 6 77 n f) s.heap from hP.sub [3, 4] rfl) (show va_D A (wR (o 3) (o 4) (k 2) 6 77 n f) from hD.sub [3, 4] (by decide) rfl) (va_recv hK hP (ci := 2) (q0 := 3) rfl rfl)) rfl rfl hl.1 rfl (lv_room (Nat.le_of_ble_eq_true rfl)) dX3_send_4 ⟨Nat.le_of_ble_eq_true rfl, Nat.le_of_ble_eq_true rfl⟩) (fun H locs hP hD hS => ?_)
  refine lv_istore (lv' := [(7, .int (nI n)), (0, .ref (o 0)), (1, .int zk), (2, .int zc), (3, .int zr), (4, .int zs), (5, .int zt), (6, .int zv)]) hx hb dX3_send_7 hl (by decide) rfl (fun ls hl => ?_)
  refine lv_aload_n hx hb dX3_send_9 rfl (lv_at hl 1 rfl) ?_
  refine va_get (D := (dC, dI)) (ci := 3) (v := .ref (o 3)) (C := RX3) (T := TX3) (N := 4) hx hb hts inX3_send_X3 hown hK hP (0) rfl rfl 2 (by decide) (hts _ lkX3_send_28) (fun _ h9 => h9) rfl dX3_send_10 ?_
  refine lv_iload hx hb dX3_send_13 (lv_at hl 0 rfl) ?_
  refine lv_iconst (v := nI 0) hx hb dX3_send_15 (by decide) ?_
  refine lv_iload_n hx hb dX3_send_16 rfl (lv_at hl 2 rfl) ?_
  refine goV (ws := (wX o k R C (n + 1) f d g)) (ws' := (wX o k R C (n + 1) (upd f (n * 6 + 0) zk) d g)) (show qFit (wX o k R C (n + 1) f d g) (wR (o 3) (o 4) (k 2) 6 77 (n + 1) f) (wR (o 3) (o 4) (k 2) 6 77 (n + 1) (upd f (n * 6 + 0) zk)) (wX o k R C (n + 1) (upd f (n * 6 + 0) zk) d g) from qFit2 hD (k1 := 3) (k2 := 4) rfl rfl (by decide) rfl) hP hD hS hA (va_runV (rm := ({ frames := 1, cells := 0, slots := 0, locals := 21 } : Room)) (As := [.int (nI n), .int (nI 0), .int zk]) (rest := []) ⟨hx, hb, hml, hown, hts⟩ (MetV.at (k_X2_set l dC dI (o 3) (o 4) (k 2) 6 77 (n + 1) f (by omega) (Nat.le_of_ble_eq_true rfl) (Nat.le_of_ble_eq_true rfl) (Nat.le_of_ble_eq_true rfl) n 0 (Nat.lt_succ_self n) (by decide) zk) H.size) (cwV 3 hts gX3_send_X2_set rfl rfl rfl (by decide +kernel) ⟨Nat.le_of_ble_eq_true rfl, Nat.le_of_ble_eq_true rfl⟩) (preWV (show va_K (dC, dI) vwCl [(k 2, .int)] s from hK.sub [2] rfl) (show va_P (dC, dI) vwCl (wR (o 3) (o 4) (k 2) 6 77 (n + 1) f) H from hP.sub [3, 4] rfl) (show va_D A (wR (o 3) (o 4) (k 2) 6 77 (n + 1) f) from hD.sub [3, 4] (by decide) rfl) (va_recv hK hP (ci := 2) (q0 := 3) rfl rfl)) rfl rfl hl.1 rfl (lv_room (Nat.le_of_ble_eq_true rfl)) dX3_send_17 ⟨Nat.le_of_ble_eq_true rfl, Nat.le_of_ble_eq_true rfl⟩) (fun H locs hP hD hS => ?_)
  refine lv_aload_n hx hb dX3_send_20 rfl (lv_at hl 1 rfl) ?_
  refine va_get (D := (dC, dI)) (ci := 3) (v := .ref (o 3)) (C := RX3) (T := TX3) (N := 4) hx hb hts inX3_send_X3 hown hK hP (0) rfl rfl 2 (by decide) (hts _ lkX3_send_28) (fun _ h9 => h9) rfl dX3_send_21 ?_
  refine lv_iload hx hb dX3_send_24 (lv_at hl 0 rfl) ?_
  refine lv_iconst (v := nI 1) hx hb dX3_send_26 (by decide) ?_
  refine lv_iload_n hx hb dX3_send_27 rfl (lv_at hl 3 rfl) ?_
  refine goV (ws := (wX o k R C (n + 1) (upd f (n * 6 + 0) zk) d g)) (ws' := (wX o k R C (n + 1) (upd (upd f (n * 6 + 0) zk) (n * 6 + 1) zc) d g)) (show qFit (wX o k R C (n + 1) (upd f (n * 6 + 0) zk) d g) (wR (o 3) (o 4) (k 2) 6 77 (n + 1) (upd f (n * 6 + 0) zk)) (wR (o 3) (o 4) (k 2) 6 77 (n + 1) (upd (upd f (n * 6 + 0) zk) (n * 6 + 1) zc)) (wX o k R C (n + 1) (upd (upd f (n * 6 + 0) zk) (n * 6 + 1) zc) d g) from qFit2 hD (k1 := 3) (k2 := 4) rfl rfl (by decide) rfl) hP hD hS hA (va_runV (rm := ({ frames := 1, cells := 0, slots := 0, locals := 21 } : Room)) (As := [.int (nI n), .int (nI 1), .int zc]) (rest := []) ⟨hx, hb, hml, hown, hts⟩ (MetV.at (k_X2_set l dC dI (o 3) (o 4) (k 2) 6 77 (n + 1) (upd f (n * 6 + 0) zk) (by omega) (Nat.le_of_ble_eq_true rfl) (Nat.le_of_ble_eq_true rfl) (Nat.le_of_ble_eq_true rfl) n 1 (Nat.lt_succ_self n) (by decide) zc) H.size) (cwV 3 hts gX3_send_X2_set rfl rfl rfl (by decide +kernel) ⟨Nat.le_of_ble_eq_true rfl, Nat.le_of_ble_eq_true rfl⟩) (preWV (show va_K (dC, dI) vwCl [(k 2, .int)] s from hK.sub [2] rfl) (show va_P (dC, dI) vwCl (wR (o 3) (o 4) (k 2) 6 77 (n + 1) (upd f (n * 6 + 0) zk)) H from hP.sub [3, 4] rfl) (show va_D A (wR (o 3) (o 4) (k 2) 6 77 (n + 1) (upd f (n * 6 + 0) zk)) from hD.sub [3, 4] (by decide) rfl) (va_recv hK hP (ci := 2) (q0 := 3) rfl rfl)) rfl rfl hl.1 rfl (lv_room (Nat.le_of_ble_eq_true rfl)) dX3_send_28 ⟨Nat.le_of_ble_eq_true rfl, Nat.le_of_ble_eq_true rfl⟩) (fun H locs hP hD hS => ?_)
  refine lv_aload_n hx hb dX3_send_31 rfl (lv_at hl 1 rfl) ?_
  refine va_get (D := (dC, dI)) (ci := 3) (v := .ref (o 3)) (C := RX3) (T := TX3) (N := 4) hx hb hts inX3_send_X3 hown hK hP (0) rfl rfl 2 (by decide) (hts _ lkX3_send_28) (fun _ h9 => h9) rfl dX3_send_32 ?_
  refine lv_iload hx hb dX3_send_35 (lv_at hl 0 rfl) ?_
  refine lv_iconst (v := nI 2) hx hb dX3_send_37 (by decide) ?_
  refine lv_iload_n hx hb dX3_send_38 rfl (lv_at hl 4 rfl) ?_
  refine goV (ws := (wX o k R C (n + 1) (upd (upd f (n * 6 + 0) zk) (n * 6 + 1) zc) d g)) (ws' := (wX o k R C (n + 1) (upd (upd (upd f (n * 6 + 0) zk) (n * 6 + 1) zc) (n * 6 + 2) zr) d g)) (show qFit (wX o k R C (n + 1) (upd (upd f (n * 6 + 0) zk) (n * 6 + 1) zc) d g) (wR (o 3) (o 4) (k 2) 6 77 (n + 1) (upd (upd f (n * 6 + 0) zk) (n * 6 + 1) zc)) (wR (o 3) (o 4) (k 2) 6 77 (n + 1) (upd (upd (upd f (n * 6 + 0) zk) (n * 6 + 1) zc) (n * 6 + 2) zr)) (wX o k R C (n + 1) (upd (upd (upd f (n * 6 + 0) zk) (n * 6 + 1) zc) (n * 6 + 2) zr) d g) from qFit2 hD (k1 := 3) (k2 := 4) rfl rfl (by decide) rfl) hP hD hS hA (va_runV (rm := ({ frames := 1, cells := 0, slots := 0, locals := 21 } : Room)) (As := [.int (nI n), .int (nI 2), .int zr]) (rest := []) ⟨hx, hb, hml, hown, hts⟩ (MetV.at (k_X2_set l dC dI (o 3) (o 4) (k 2) 6 77 (n + 1) (upd (upd f (n * 6 + 0) zk) (n * 6 + 1) zc) (by omega) (Nat.le_of_ble_eq_true rfl) (Nat.le_of_ble_eq_true rfl) (Nat.le_of_ble_eq_true rfl) n 2 (Nat.lt_succ_self n) (by decide) zr) H.size) (cwV 3 hts gX3_send_X2_set rfl rfl rfl (by decide +kernel) ⟨Nat.le_of_ble_eq_true rfl, Nat.le_of_ble_eq_true rfl⟩) (preWV (show va_K (dC, dI) vwCl [(k 2, .int)] s from hK.sub [2] rfl) (show va_P (dC, dI) vwCl (wR (o 3) (o 4) (k 2) 6 77 (n + 1) (upd (upd f (n * 6 + 0) zk) (n * 6 + 1) zc)) H from hP.sub [3, 4] rfl) (show va_D A (wR (o 3) (o 4) (k 2) 6 77 (n + 1) (upd (upd f (n * 6 + 0) zk) (n * 6 + 1) zc)) from hD.sub [3, 4] (by decide) rfl) (va_recv hK hP (ci := 2) (q0 := 3) rfl rfl)) rfl rfl hl.1 rfl (lv_room (Nat.le_of_ble_eq_true rfl)) dX3_send_39 ⟨Nat.le_of_ble_eq_true rfl, Nat.le_of_ble_eq_true rfl⟩) (fun H locs hP hD hS => ?_)
  refine lv_aload_n hx hb dX3_send_42 rfl (lv_at hl 1 rfl) ?_
  refine va_get (D := (dC, dI)) (ci := 3) (v := .ref (o 3)) (C := RX3) (T := TX3) (N := 4) hx hb hts inX3_send_X3 hown hK hP (0) rfl rfl 2 (by decide) (hts _ lkX3_send_28) (fun _ h9 => h9) rfl dX3_send_43 ?_
  refine lv_iload hx hb dX3_send_46 (lv_at hl 0 rfl) ?_
  refine lv_iconst (v := nI 3) hx hb dX3_send_48 (by decide) ?_
  refine lv_iload hx hb dX3_send_49 (lv_at hl 5 rfl) ?_
  refine goV (ws := (wX o k R C (n + 1) (upd (upd (upd f (n * 6 + 0) zk) (n * 6 + 1) zc) (n * 6 + 2) zr) d g)) (ws' := (wX o k R C (n + 1) (upd (upd (upd (upd f (n * 6 + 0) zk) (n * 6 + 1) zc) (n * 6 + 2) zr) (n * 6 + 3) zs) d g)) (show qFit (wX o k R C (n + 1) (upd (upd (upd f (n * 6 + 0) zk) (n * 6 + 1) zc) (n * 6 + 2) zr) d g) (wR (o 3) (o 4) (k 2) 6 77 (n + 1) (upd (upd (upd f (n * 6 + 0) zk) (n * 6 + 1) zc) (n * 6 + 2) zr)) (wR (o 3) (o 4) (k 2) 6 77 (n + 1) (upd (upd (upd (upd f (n * 6 + 0) zk) (n * 6 + 1) zc) (n * 6 + 2) zr) (n * 6 + 3) zs)) (wX o k R C (n + 1) (upd (upd (upd (upd f (n * 6 + 0) zk) (n * 6 + 1) zc) (n * 6 + 2) zr) (n * 6 + 3) zs) d g) from qFit2 hD (k1 := 3) (k2 := 4) rfl rfl (by decide) rfl) hP hD hS hA (va_runV (rm := ({ frames := 1, cells := 0, slots := 0, locals := 21 } : Room)) (As := [.int (nI n), .int (nI 3), .int zs]) (rest := []) ⟨hx, hb, hml, hown, hts⟩ (MetV.at (k_X2_set l dC dI (o 3) (o 4) (k 2) 6 77 (n + 1) (upd (upd (upd f (n * 6 + 0) zk) (n * 6 + 1) zc) (n * 6 + 2) zr) (by omega) (Nat.le_of_ble_eq_true rfl) (Nat.le_of_ble_eq_true rfl) (Nat.le_of_ble_eq_true rfl) n 3 (Nat.lt_succ_self n) (by decide) zs) H.size) (cwV 3 hts gX3_send_X2_set rfl rfl rfl (by decide +kernel) ⟨Nat.le_of_ble_eq_true rfl, Nat.le_of_ble_eq_true rfl⟩) (preWV (show va_K (dC, dI) vwCl [(k 2, .int)] s from hK.sub [2] rfl) (show va_P (dC, dI) vwCl (wR (o 3) (o 4) (k 2) 6 77 (n + 1) (upd (upd (upd f (n * 6 + 0) zk) (n * 6 + 1) zc) (n * 6 + 2) zr)) H from hP.sub [3, 4] rfl) (show va_D A (wR (o 3) (o 4) (k 2) 6 77 (n + 1) (upd (upd (upd f (n * 6 + 0) zk) (n * 6 + 1) zc) (n * 6 + 2) zr)) from hD.sub [3, 4] (by decide) rfl) (va_recv hK hP (ci := 2) (q0 := 3) rfl rfl)) rfl rfl hl.1 rfl (lv_room (Nat.le_of_ble_eq_true rfl)) dX3_send_51 ⟨Nat.le_of_ble_eq_true rfl, Nat.le_of_ble_eq_true rfl⟩) (fun H locs hP hD hS => ?_)
  refine lv_aload_n hx hb dX3_send_54 rfl (lv_at hl 1 rfl) ?_
  refine va_get (D := (dC, dI)) (ci := 3) (v := .ref (o 3)) (C := RX3) (T := TX3) (N := 4) hx hb hts inX3_send_X3 hown hK hP (0) rfl rfl 2 (by decide) (hts _ lkX3_send_28) (fun _ h9 => h9) rfl dX3_send_55 ?_
  refine lv_iload hx hb dX3_send_58 (lv_at hl 0 rfl) ?_
  refine lv_iconst (v := nI 4) hx hb dX3_send_60 (by decide) ?_
  refine lv_iload hx hb dX3_send_61 (lv_at hl 6 rfl) ?_
  refine goV (ws := (wX o k R C (n + 1) (upd (upd (upd (upd f (n * 6 + 0) zk) (n * 6 + 1) zc) (n * 6 + 2) zr) (n * 6 + 3) zs) d g)) (ws' := (wX o k R C (n + 1) (upd (upd (upd (upd (upd f (n * 6 + 0) zk) (n * 6 + 1) zc) (n * 6 + 2) zr) (n * 6 + 3) zs) (n * 6 + 4) zt) d g)) (show qFit (wX o k R C (n + 1) (upd (upd (upd (upd f (n * 6 + 0) zk) (n * 6 + 1) zc) (n * 6 + 2) zr) (n * 6 + 3) zs) d g) (wR (o 3) (o 4) (k 2) 6 77 (n + 1) (upd (upd (upd (upd f (n * 6 + 0) zk) (n * 6 + 1) zc) (n * 6 + 2) zr) (n * 6 + 3) zs)) (wR (o 3) (o 4) (k 2) 6 77 (n + 1) (upd (upd (upd (upd (upd f (n * 6 + 0) zk) (n * 6 + 1) zc) (n * 6 + 2) zr) (n * 6 + 3) zs) (n * 6 + 4) zt)) (wX o k R C (n + 1) (upd (upd (upd (upd (upd f (n * 6 + 0) zk) (n * 6 + 1) zc) (n * 6 + 2) zr) (n * 6 + 3) zs) (n * 6 + 4) zt) d g) from qFit2 hD (k1 := 3) (k2 := 4) rfl rfl (by decide) rfl) hP hD hS hA (va_runV (rm := ({ frames := 1, cells := 0, slots := 0, locals := 21 } : Room)) (As := [.int (nI n), .int (nI 4), .int zt]) (rest := []) ⟨hx, hb, hml, hown, hts⟩ (MetV.at (k_X2_set l dC dI (o 3) (o 4) (k 2) 6 77 (n + 1) (upd (upd (upd (upd f (n * 6 + 0) zk) (n * 6 + 1) zc) (n * 6 + 2) zr) (n * 6 + 3) zs) (by omega) (Nat.le_of_ble_eq_true rfl) (Nat.le_of_ble_eq_true rfl) (Nat.le_of_ble_eq_true rfl) n 4 (Nat.lt_succ_self n) (by decide) zt) H.size) (cwV 3 hts gX3_send_X2_set rfl rfl rfl (by decide +kernel) ⟨Nat.le_of_ble_eq_true rfl, Nat.le_of_ble_eq_true rfl⟩) (preWV (show va_K (dC, dI) vwCl [(k 2, .int)] s from hK.sub [2] rfl) (show va_P (dC, dI) vwCl (wR (o 3) (o 4) (k 2) 6 77 (n + 1) (upd (upd (upd (upd f (n * 6 + 0) zk) (n * 6 + 1) zc) (n * 6 + 2) zr) (n * 6 + 3) zs)) H from hP.sub [3, 4] rfl) (show va_D A (wR (o 3) (o 4) (k 2) 6 77 (n + 1) (upd (upd (upd (upd f (n * 6 + 0) zk) (n * 6 + 1) zc) (n * 6 + 2) zr) (n * 6 + 3) zs)) from hD.sub [3, 4] (by decide) rfl) (va_recv hK hP (ci := 2) (q0 := 3) rfl rfl)) rfl rfl hl.1 rfl (lv_room (Nat.le_of_ble_eq_true rfl)) dX3_send_63 ⟨Nat.le_of_ble_eq_true rfl, Nat.le_of_ble_eq_true rfl⟩) (fun H locs hP hD hS => ?_)
  refine lv_aload_n hx hb dX3_send_66 rfl (lv_at hl 1 rfl) ?_
  refine va_get (D := (dC, dI)) (ci := 3) (v := .ref (o 3)) (C := RX3) (T := TX3) (N := 4) hx hb hts inX3_send_X3 hown hK hP (0) rfl rfl 2 (by decide) (hts _ lkX3_send_28) (fun _ h9 => h9) rfl dX3_send_67 ?_
  refine lv_iload hx hb dX3_send_70 (lv_at hl 0 rfl) ?_
  refine lv_iconst (v := nI 5) hx hb dX3_send_72 (by decide) ?_
  refine lv_iload hx hb dX3_send_73 (lv_at hl 7 rfl) ?_
  refine goV (ws := (wX o k R C (n + 1) (upd (upd (upd (upd (upd f (n * 6 + 0) zk) (n * 6 + 1) zc) (n * 6 + 2) zr) (n * 6 + 3) zs) (n * 6 + 4) zt) d g)) (ws' := (wX o k R C (n + 1) (upd (upd (upd (upd (upd (upd f (n * 6 + 0) zk) (n * 6 + 1) zc) (n * 6 + 2) zr) (n * 6 + 3) zs) (n * 6 + 4) zt) (n * 6 + 5) zv) d g)) (show qFit (wX o k R C (n + 1) (upd (upd (upd (upd (upd f (n * 6 + 0) zk) (n * 6 + 1) zc) (n * 6 + 2) zr) (n * 6 + 3) zs) (n * 6 + 4) zt) d g) (wR (o 3) (o 4) (k 2) 6 77 (n + 1) (upd (upd (upd (upd (upd f (n * 6 + 0) zk) (n * 6 + 1) zc) (n * 6 + 2) zr) (n * 6 + 3) zs) (n * 6 + 4) zt)) (wR (o 3) (o 4) (k 2) 6 77 (n + 1) (upd (upd (upd (upd (upd (upd f (n * 6 + 0) zk) (n * 6 + 1) zc) (n * 6 + 2) zr) (n * 6 + 3) zs) (n * 6 + 4) zt) (n * 6 + 5) zv)) (wX o k R C (n + 1) (upd (upd (upd (upd (upd (upd f (n * 6 + 0) zk) (n * 6 + 1) zc) (n * 6 + 2) zr) (n * 6 + 3) zs) (n * 6 + 4) zt) (n * 6 + 5) zv) d g) from qFit2 hD (k1 := 3) (k2 := 4) rfl rfl (by decide) rfl) hP hD hS hA (va_runV (rm := ({ frames := 1, cells := 0, slots := 0, locals := 21 } : Room)) (As := [.int (nI n), .int (nI 5), .int zv]) (rest := []) ⟨hx, hb, hml, hown, hts⟩ (MetV.at (k_X2_set l dC dI (o 3) (o 4) (k 2) 6 77 (n + 1) (upd (upd (upd (upd (upd f (n * 6 + 0) zk) (n * 6 + 1) zc) (n * 6 + 2) zr) (n * 6 + 3) zs) (n * 6 + 4) zt) (by omega) (Nat.le_of_ble_eq_true rfl) (Nat.le_of_ble_eq_true rfl) (Nat.le_of_ble_eq_true rfl) n 5 (Nat.lt_succ_self n) (by decide) zv) H.size) (cwV 3 hts gX3_send_X2_set rfl rfl rfl (by decide +kernel) ⟨Nat.le_of_ble_eq_true rfl, Nat.le_of_ble_eq_true rfl⟩) (preWV (show va_K (dC, dI) vwCl [(k 2, .int)] s from hK.sub [2] rfl) (show va_P (dC, dI) vwCl (wR (o 3) (o 4) (k 2) 6 77 (n + 1) (upd (upd (upd (upd (upd f (n * 6 + 0) zk) (n * 6 + 1) zc) (n * 6 + 2) zr) (n * 6 + 3) zs) (n * 6 + 4) zt)) H from hP.sub [3, 4] rfl) (show va_D A (wR (o 3) (o 4) (k 2) 6 77 (n + 1) (upd (upd (upd (upd (upd f (n * 6 + 0) zk) (n * 6 + 1) zc) (n * 6 + 2) zr) (n * 6 + 3) zs) (n * 6 + 4) zt)) from hD.sub [3, 4] (by decide) rfl) (va_recv hK hP (ci := 2) (q0 := 3) rfl rfl)) rfl rfl hl.1 rfl (lv_room (Nat.le_of_ble_eq_true rfl)) dX3_send_75 ⟨Nat.le_of_ble_eq_true rfl, Nat.le_of_ble_eq_true rfl⟩) (fun H locs hP hD hS => ?_)
  exact retV hx hb hr hlk dX3_send_78 hS (hP)
theorem lkX3_sendToAll_18 : Cond.fieldLink RX3 18 "QuorumRegister" "clients" "[LQuorumRegister$Client;" ∈ wsX3_sendToAll := by decide +kernel
theorem inX3_sendToAll_X3 : ∀ w ∈ wsX30, w ∈ wsX3_sendToAll := by decide +kernel
theorem lkX3_sendToAll_105 : Cond.fieldLink RX3 105 "QuorumRegister$Client" "serial" "I" ∈ wsX3_sendToAll := by decide +kernel
theorem inX3_sendToAll_X0 : ∀ w ∈ wsX00, w ∈ wsX3_sendToAll := by decide +kernel
set_option maxHeartbeats 4000000 in
set_option maxRecDepth 100000 in
/-- sendToAll(..), with room left -/
theorem k_X3_sendToAll (l : Launch) (dC : Nat → ClassId) (dI : Nat → Nat → Nat) (o : Nat → Nat) (k : Nat → ClassId) (R C : Nat → Nat → Int32) (n : Nat) (f : Nat → Int32) (d : Nat) (g : Nat → Int32) (hn : n + 5 ≤ 77) (c : Nat) (lt_c : c < 3) (zk zt zv : Int32) : MetV l yX3_sendToAll wsX3_sendToAll ({ frames := 3, cells := 0, slots := 0, locals := 71 } : Room) (dC, dI) vwCl (wX o k R C n f d g) (tyX k) [.ref (o 0), .int zk, .int (nI c), .int zt, .int zv] (wX o k R C (n + 5) (sndN zk (nI c) (C c 1) zt zv f n 5) d g) := by
  refine MetV.of (cc := cX3_sendToAll) (maxL := 6) (ret := none) (by decide) rfl (Nat.le_of_ble_eq_true rfl) rfl ?_
  intro p e s m below meth cd ls A hx hb hr hlk hml hown hts hK hP hD hS hA hl
  have hl : lv_has ls 6 [(0, .ref (o 0)), (1, .int zk), (2, .int (nI c)), (3, .int zt), (4, .int zv)] := hl
  refine lv_iconst (v := nI 0) hx hb dX3_sendToAll_0 (by decide) ?_
  refine lv_istore (lv' := [(5, .int (nI 0)), (0, .ref (o 0)), (1, .int zk), (2, .int (nI c)), (3, .int zt), (4, .int zv)]) hx hb dX3_sendToAll_1 hl (by decide) rfl (fun ls hl => ?_)
  refine lv_iload hx hb dX3_sendToAll_3 (lv_at hl 0 rfl) ?_
  refine lv_iconst (v := nI 5) hx hb dX3_sendToAll_5 (by decide) ?_
  refine lv_icmp_ge (tgt := 35) hx hb dX3_sendToAll_6 (by decide) (fun c9 => absurd c9 (by decide +kernel)) (fun _ => ?_)
  refine lv_aload_n hx hb dX3_sendToAll_9 rfl (lv_at hl 1 rfl) ?_
  refine lv_iload_n hx hb dX3_sendToAll_10 rfl (lv_at hl 2 rfl) ?_
  refine lv_iload_n hx hb dX3_sendToAll_11 rfl (lv_at hl 3 rfl) ?_
  refine lv_iload hx hb dX3_sendToAll_12 (lv_at hl 0 rfl) ?_
  refine lv_aload_n hx hb dX3_sendToAll_14 rfl (lv_at hl 1 rfl) ?_
  refine va_get (D := (dC, dI)) (ci := 3) (v := .ref (o 2)) (C := RX3) (T := TX3) (N := 4) hx hb hts inX3_sendToAll_X3 hown hK hP (0) rfl rfl 1 (by decide) (hts _ lkX3_sendToAll_18) (fun _ h9 => h9) rfl dX3_sendToAll_15 ?_
  refine lv_iload_n hx hb dX3_sendToAll_18 rfl (lv_at hl 3 rfl) ?_
  refine q_aald hx hb hK hP (2) 1 (j := c) rfl rfl lt_c (Nat.le_of_ble_eq_true rfl) dX3_sendToAll_19 ?_
  refine va_get (D := (dC, dI)) (ci := 0) (v := .int (C c 1)) (C := RX0) (T := TX0) (N := 8) hx hb hts inX3_sendToAll_X0 hown hK hP (12 + c) (wX_C lt_c) rfl 1 (by decide) (hts _ lkX3_sendToAll_105) (fun _ h9 => h9) rfl dX3_sendToAll_20 ?_
  refine lv_iload_n hx hb dX3_sendToAll_23 rfl (lv_at hl 4 rfl) ?_
  refine lv_iload hx hb dX3_sendToAll_24 (lv_at hl 5 rfl) ?_
  refine goV (ws := (wX o k R C n f d g)) (ws' := (wX o k R C (n + 1) (sndN zk (nI c) (C c 1) zt zv f n 1) d g)) (qFit_all rfl) hP hD hS hA (va_runV (rm := ({ frames := 2, cells := 0, slots := 0, locals := 44 } : Room)) (As := [.int zk, .int (nI c), .int (nI 0), .int (C c 1), .int zt, .int zv]) (rest := []) ⟨hx, hb, hml, hown, hts⟩ (MetV.at (k_X3_send l dC dI o k R C n f d g (by omega) zk (nI c) (nI 0) (C c 1) zt zv) s.heap.size) (cwV 6 hts gX3_sendToAll_X3_send rfl rfl rfl (by decide +kernel) ⟨Nat.le_of_ble_eq_true rfl, Nat.le_of_ble_eq_true rfl⟩) (preWV hK hP hD (va_recv hK hP (ci := 3) (q0 := 0) rfl rfl)) rfl rfl hl.1 rfl (lv_room (Nat.le_of_ble_eq_true rfl)) dX3_sendToAll_26 ⟨Nat.le_of_ble_eq_true rfl, Nat.le_of_ble_eq_true rfl⟩) (fun H locs hP hD hS => ?_)
  refine lv_iinc (v := nI 1) (lv' := [(5, .int (nI 1)), (0, .ref (o 0)), (1, .int zk), (2, .int (nI c)), (3, .int zt), (4, .int zv)]) hx hb dX3_sendToAll_29 hl (k := 0) rfl (nI_add _ 1) (by decide) rfl (fun ls hl => ?_)
  refine lv_goto (tgt := 3) hx hb dX3_sendToAll_32 (by decide) ?_
  refine lv_iload hx hb dX3_sendToAll_3 (lv_at hl 0 rfl) ?_
  refine lv_iconst (v := nI 5) hx hb dX3_sendToAll_5 (by decide) ?_
  refine lv_icmp_ge (tgt := 35) hx hb dX3_sendToAll_6 (by decide) (fun c9 => absurd c9 (by decide +kernel)) (fun _ => ?_)
  refine lv_aload_n hx hb dX3_sendToAll_9 rfl (lv_at hl 1 rfl) ?_
  refine lv_iload_n hx hb dX3_sendToAll_10 rfl (lv_at hl 2 rfl) ?_
  refine lv_iload_n hx hb dX3_sendToAll_11 rfl (lv_at hl 3 rfl) ?_
  refine lv_iload hx hb dX3_sendToAll_12 (lv_at hl 0 rfl) ?_
  refine lv_aload_n hx hb dX3_sendToAll_14 rfl (lv_at hl 1 rfl) ?_
  refine va_get (D := (dC, dI)) (ci := 3) (v := .ref (o 2)) (C := RX3) (T := TX3) (N := 4) hx hb hts inX3_sendToAll_X3 hown hK hP (0) rfl rfl 1 (by decide) (hts _ lkX3_sendToAll_18) (fun _ h9 => h9) rfl dX3_sendToAll_15 ?_
  refine lv_iload_n hx hb dX3_sendToAll_18 rfl (lv_at hl 3 rfl) ?_
  refine q_aald hx hb hK hP (2) 1 (j := c) rfl rfl lt_c (Nat.le_of_ble_eq_true rfl) dX3_sendToAll_19 ?_
  refine va_get (D := (dC, dI)) (ci := 0) (v := .int (C c 1)) (C := RX0) (T := TX0) (N := 8) hx hb hts inX3_sendToAll_X0 hown hK hP (12 + c) (wX_C lt_c) rfl 1 (by decide) (hts _ lkX3_sendToAll_105) (fun _ h9 => h9) rfl dX3_sendToAll_20 ?_
  refine lv_iload_n hx hb dX3_sendToAll_23 rfl (lv_at hl 4 rfl) ?_
  refine lv_iload hx hb dX3_sendToAll_24 (lv_at hl 5 rfl) ?_
  refine goV (ws := (wX o k R C (n + 1) (sndN zk (nI c) (C c 1) zt zv f n 1) d g)) (ws' := (wX o k R C (n + 2) (sndN zk (nI c) (C c 1) zt zv f n 2) d g)) (qFit_all rfl) hP hD hS hA (va_runV (rm := ({ frames := 2, cells := 0, slots := 0, locals := 44 } : Room)) (As := [.int zk, .int (nI c), .int (nI 1), .int (C c 1), .int zt, .int zv]) (rest := []) ⟨hx, hb, hml, hown, hts⟩ (MetV.at (k_X3_send l dC dI o k R C (n + 1) (sndN zk (nI c) (C c 1) zt zv f n 1) d g (by omega) zk (nI c) (nI 1) (C c 1) zt zv) H.size) (cwV 6 hts gX3_sendToAll_X3_send rfl rfl rfl (by decide +kernel) ⟨Nat.le_of_ble_eq_true rfl, Nat.le_of_ble_eq_true rfl⟩) (preWV hK hP hD (va_recv hK hP (ci := 3) (q0 := 0) rfl rfl)) rfl rfl hl.1 rfl (lv_room (Nat.le_of_ble_eq_true rfl)) dX3_sendToAll_26 ⟨Nat.le_of_ble_eq_true rfl, Nat.le_of_ble_eq_true rfl⟩) (fun H locs hP hD hS => ?_)
  refine lv_iinc (v := nI 2) (lv' := [(5, .int (nI 2)), (0, .ref (o 0)), (1, .int zk), (2, .int (nI c)), (3, .int zt), (4, .int zv)]) hx hb dX3_sendToAll_29 hl (k := 0) rfl (nI_add _ 1) (by decide) rfl (fun ls hl => ?_)
  refine lv_goto (tgt := 3) hx hb dX3_sendToAll_32 (by decide) ?_
  refine lv_iload hx hb dX3_sendToAll_3 (lv_at hl 0 rfl) ?_
  refine lv_iconst (v := nI 5) hx hb dX3_sendToAll_5 (by decide) ?_
  refine lv_icmp_ge (tgt := 35) hx hb dX3_sendToAll_6 (by decide) (fun c9 => absurd c9 (by decide +kernel)) (fun _ => ?_)
  refine lv_aload_n hx hb dX3_sendToAll_9 rfl (lv_at hl 1 rfl) ?_
  refine lv_iload_n hx hb dX3_sendToAll_10 rfl (lv_at hl 2 rfl) ?_
  refine lv_iload_n hx hb dX3_sendToAll_11 rfl (lv_at hl 3 rfl) ?_
  refine lv_iload hx hb dX3_sendToAll_12 (lv_at hl 0 rfl) ?_
  refine lv_aload_n hx hb dX3_sendToAll_14 rfl (lv_at hl 1 rfl) ?_
  refine va_get (D := (dC, dI)) (ci := 3) (v := .ref (o 2)) (C := RX3) (T := TX3) (N := 4) hx hb hts inX3_sendToAll_X3 hown hK hP (0) rfl rfl 1 (by decide) (hts _ lkX3_sendToAll_18) (fun _ h9 => h9) rfl dX3_sendToAll_15 ?_
  refine lv_iload_n hx hb dX3_sendToAll_18 rfl (lv_at hl 3 rfl) ?_
  refine q_aald hx hb hK hP (2) 1 (j := c) rfl rfl lt_c (Nat.le_of_ble_eq_true rfl) dX3_sendToAll_19 ?_
  refine va_get (D := (dC, dI)) (ci := 0) (v := .int (C c 1)) (C := RX0) (T := TX0) (N := 8) hx hb hts inX3_sendToAll_X0 hown hK hP (12 + c) (wX_C lt_c) rfl 1 (by decide) (hts _ lkX3_sendToAll_105) (fun _ h9 => h9) rfl dX3_sendToAll_20 ?_
  refine lv_iload_n hx hb dX3_sendToAll_23 rfl (lv_at hl 4 rfl) ?_
  refine lv_iload hx hb dX3_sendToAll_24 (lv_at hl 5 rfl) ?_
  refine goV (ws := (wX o k R C (n + 2) (sndN zk (nI c) (C c 1) zt zv f n 2) d g)) (ws' := (wX o k R C (n + 3) (sndN zk (nI c) (C c 1) zt zv f n 3) d g)) (qFit_all rfl) hP hD hS hA (va_runV (rm := ({ frames := 2, cells := 0, slots := 0, locals := 44 } : Room)) (As := [.int zk, .int (nI c), .int (nI 2), .int (C c 1), .int zt, .int zv]) (rest := []) ⟨hx, hb, hml, hown, hts⟩ (MetV.at (k_X3_send l dC dI o k R C (n + 2) (sndN zk (nI c) (C c 1) zt zv f n 2) d g (by omega) zk (nI c) (nI 2) (C c 1) zt zv) H.size) (cwV 6 hts gX3_sendToAll_X3_send rfl rfl rfl (by decide +kernel) ⟨Nat.le_of_ble_eq_true rfl, Nat.le_of_ble_eq_true rfl⟩) (preWV hK hP hD (va_recv hK hP (ci := 3) (q0 := 0) rfl rfl)) rfl rfl hl.1 rfl (lv_room (Nat.le_of_ble_eq_true rfl)) dX3_sendToAll_26 ⟨Nat.le_of_ble_eq_true rfl, Nat.le_of_ble_eq_true rfl⟩) (fun H locs hP hD hS => ?_)
  refine lv_iinc (v := nI 3) (lv' := [(5, .int (nI 3)), (0, .ref (o 0)), (1, .int zk), (2, .int (nI c)), (3, .int zt), (4, .int zv)]) hx hb dX3_sendToAll_29 hl (k := 0) rfl (nI_add _ 1) (by decide) rfl (fun ls hl => ?_)
  refine lv_goto (tgt := 3) hx hb dX3_sendToAll_32 (by decide) ?_
  refine lv_iload hx hb dX3_sendToAll_3 (lv_at hl 0 rfl) ?_
  refine lv_iconst (v := nI 5) hx hb dX3_sendToAll_5 (by decide) ?_
  refine lv_icmp_ge (tgt := 35) hx hb dX3_sendToAll_6 (by decide) (fun c9 => absurd c9 (by decide +kernel)) (fun _ => ?_)
  refine lv_aload_n hx hb dX3_sendToAll_9 rfl (lv_at hl 1 rfl) ?_
  refine lv_iload_n hx hb dX3_sendToAll_10 rfl (lv_at hl 2 rfl) ?_
  refine lv_iload_n hx hb dX3_sendToAll_11 rfl (lv_at hl 3 rfl) ?_
  refine lv_iload hx hb dX3_sendToAll_12 (lv_at hl 0 rfl) ?_
  refine lv_aload_n hx hb dX3_sendToAll_14 rfl (lv_at hl 1 rfl) ?_
  refine va_get (D := (dC, dI)) (ci := 3) (v := .ref (o 2)) (C := RX3) (T := TX3) (N := 4) hx hb hts inX3_sendToAll_X3 hown hK hP (0) rfl rfl 1 (by decide) (hts _ lkX3_sendToAll_18) (fun _ h9 => h9) rfl dX3_sendToAll_15 ?_
  refine lv_iload_n hx hb dX3_sendToAll_18 rfl (lv_at hl 3 rfl) ?_
  refine q_aald hx hb hK hP (2) 1 (j := c) rfl rfl lt_c (Nat.le_of_ble_eq_true rfl) dX3_sendToAll_19 ?_
  refine va_get (D := (dC, dI)) (ci := 0) (v := .int (C c 1)) (C := RX0) (T := TX0) (N := 8) hx hb hts inX3_sendToAll_X0 hown hK hP (12 + c) (wX_C lt_c) rfl 1 (by decide) (hts _ lkX3_sendToAll_105) (fun _ h9 => h9) rfl dX3_sendToAll_20 ?_
  refine lv_iload_n hx hb dX3_sendToAll_23 rfl (lv_at hl 4 rfl) ?_
  refine lv_iload hx hb dX3_sendToAll_24 (lv_at hl 5 rfl) ?_
  refine goV (ws := (wX o k R C (n + 3) (sndN zk (nI c) (C c 1) zt zv f n 3) d g)) (ws' := (wX o k R C (n + 4) (sndN zk (nI c) (C c 1) zt zv f n 4) d g)) (qFit_all rfl) hP hD hS hA (va_runV (rm := ({ frames := 2, cells := 0, slots := 0, locals := 44 } : Room)) (As := [.int zk, .int (nI c), .int (nI 3), .int (C c 1), .int zt, .int zv]) (rest := []) ⟨hx, hb, hml, hown, hts⟩ (MetV.at (k_X3_send l dC dI o k R C (n + 3) (sndN zk (nI c) (C c 1) zt zv f n 3) d g (by omega) zk (nI c) (nI 3) (C c 1) zt zv) H.size) (cwV 6 hts gX3_sendToAll_X3_send rfl rfl rfl (by decide +kernel) ⟨Nat.le_of_ble_eq_true rfl, Nat.le_of_ble_eq_true rfl⟩) (preWV hK hP hD (va_recv hK hP (ci := 3) (q0 := 0) rfl rfl)) rfl rfl hl.1 rfl (lv_room (Nat.le_of_ble_eq_true rfl)) dX3_sendToAll_26 ⟨Nat.le_of_ble_eq_true rfl, Nat.le_of_ble_eq_true rfl⟩) (fun H locs hP hD hS => ?_)
  refine lv_iinc (v := nI 4) (lv' := [(5, .int (nI 4)), (0, .ref (o 0)), (1, .int zk), (2, .int (nI c)), (3, .int zt), (4, .int zv)]) hx hb dX3_sendToAll_29 hl (k := 0) rfl (nI_add _ 1) (by decide) rfl (fun ls hl => ?_)
  refine lv_goto (tgt := 3) hx hb dX3_sendToAll_32 (by decide) ?_
  refine lv_iload hx hb dX3_sendToAll_3 (lv_at hl 0 rfl) ?_
  refine lv_iconst (v := nI 5) hx hb dX3_sendToAll_5 (by decide) ?_
  refine lv_icmp_ge (tgt := 35) hx hb dX3_sendToAll_6 (by decide) (fun c9 => absurd c9 (by decide +kernel)) (fun _ => ?_)
  refine lv_aload_n hx hb dX3_sendToAll_9 rfl (lv_at hl 1 rfl) ?_
  refine lv_iload_n hx hb dX3_sendToAll_10 rfl (lv_at hl 2 rfl) ?_
  refine lv_iload_n hx hb dX3_sendToAll_11 rfl (lv_at hl 3 rfl) ?_
  refine lv_iload hx hb dX3_sendToAll_12 (lv_at hl 0 rfl) ?_
  refine lv_aload_n hx hb dX3_sendToAll_14 rfl (lv_at hl 1 rfl) ?_
  refine va_get (D := (dC, dI)) (ci := 3) (v := .ref (o 2)) (C := RX3) (T := TX3) (N := 4) hx hb hts inX3_sendToAll_X3 hown hK hP (0) rfl rfl 1 (by decide) (hts _ lkX3_sendToAll_18) (fun _ h9 => h9) rfl dX3_sendToAll_15 ?_
  refine lv_iload_n hx hb dX3_sendToAll_18 rfl (lv_at hl 3 rfl) ?_
  refine q_aald hx hb hK hP (2) 1 (j := c) rfl rfl lt_c (Nat.le_of_ble_eq_true rfl) dX3_sendToAll_19 ?_
  refine va_get (D := (dC, dI)) (ci := 0) (v := .int (C c 1)) (C := RX0) (T := TX0) (N := 8) hx hb hts inX3_sendToAll_X0 hown hK hP (12 + c) (wX_C lt_c) rfl 1 (by decide) (hts _ lkX3_sendToAll_105) (fun _ h9 => h9) rfl dX3_sendToAll_20 ?_
  refine lv_iload_n hx hb dX3_sendToAll_23 rfl (lv_at hl 4 rfl) ?_
  refine lv_iload hx hb dX3_sendToAll_24 (lv_at hl 5 rfl) ?_
  refine goV (ws := (wX o k R C (n + 4) (sndN zk (nI c) (C c 1) zt zv f n 4) d g)) (ws' := (wX o k R C (n + 5) (sndN zk (nI c) (C c 1) zt zv f n 5) d g)) (qFit_all rfl) hP hD hS hA (va_runV (rm := ({ frames := 2, cells := 0, slots := 0, locals := 44 } : Room)) (As := [.int zk, .int (nI c), .int (nI 4), .int (C c 1), .int zt, .int zv]) (rest := []) ⟨hx, hb, hml, hown, hts⟩ (MetV.at (k_X3_send l dC dI o k R C (n + 4) (sndN zk (nI c) (C c 1) zt zv f n 4) d g (by omega) zk (nI c) (nI 4) (C c 1) zt zv) H.size) (cwV 6 hts gX3_sendToAll_X3_send rfl rfl rfl (by decide +kernel) ⟨Nat.le_of_ble_eq_true rfl, Nat.le_of_ble_eq_true rfl⟩) (preWV hK hP hD (va_recv hK hP (ci := 3) (q0 := 0) rfl rfl)) rfl rfl hl.1 rfl (lv_room (Nat.le_of_ble_eq_true rfl)) dX3_sendToAll_26 ⟨Nat.le_of_ble_eq_true rfl, Nat.le_of_ble_eq_true rfl⟩) (fun H locs hP hD hS => ?_)
  refine lv_iinc (v := nI 5) (lv' := [(5, .int (nI 5)), (0, .ref (o 0)), (1, .int zk), (2, .int (nI c)), (3, .int zt), (4, .int zv)]) hx hb dX3_sendToAll_29 hl (k := 0) rfl (nI_add _ 1) (by decide) rfl (fun ls hl => ?_)
  refine lv_goto (tgt := 3) hx hb dX3_sendToAll_32 (by decide) ?_
  refine lv_iload hx hb dX3_sendToAll_3 (lv_at hl 0 rfl) ?_
  refine lv_iconst (v := nI 5) hx hb dX3_sendToAll_5 (by decide) ?_
  refine lv_icmp_ge (tgt := 35) hx hb dX3_sendToAll_6 (by decide) (fun _ => ?_) (fun c9 => absurd (by decide +kernel) c9)
  exact retV hx hb hr hlk dX3_sendToAll_35 hS (hP)
theorem begC1 {C : Nat → Nat → Int32} {c : Nat} {w v : Int32} : begC C c w v c 1 = C c 1 + nI 1 := by simp [begC, up2]
theorem lkX3_begin_18 : Cond.fieldLink RX3 18 "QuorumRegister" "clients" "[LQuorumRegister$Client;" ∈ wsX3_begin := by decide +kernel
theorem inX3_begin_X3 : ∀ w ∈ wsX30, w ∈ wsX3_begin := by decide +kernel
theorem lkX3_begin_43 : Cond.fieldLink RX3 43 "QuorumRegister$Client" "phase" "I" ∈ wsX3_begin := by decide +kernel
theorem inX3_begin_X0 : ∀ w ∈ wsX00, w ∈ wsX3_begin := by decide +kernel
theorem lkX3_begin_105 : Cond.fieldLink RX3 105 "QuorumRegister$Client" "serial" "I" ∈ wsX3_begin := by decide +kernel
theorem lkX3_begin_108 : Cond.fieldLink RX3 108 "QuorumRegister$Client" "writes" "Z" ∈ wsX3_begin := by decide +kernel
theorem lkX3_begin_111 : Cond.fieldLink RX3 111 "QuorumRegister$Client" "toWrite" "I" ∈ wsX3_begin := by decide +kernel
theorem lkX3_begin_114 : Cond.fieldLink RX3 114 "QuorumRegister$Client" "tag" "I" ∈ wsX3_begin := by decide +kernel
theorem lkX3_begin_115 : Cond.fieldLink RX3 115 "QuorumRegister$Client" "value" "I" ∈ wsX3_begin := by decide +kernel
set_option maxHeartbeats 4000000 in
set_option maxRecDepth 100000 in
/-- begin(c, writes, toWrite) -/
theorem k_X3_begin (l : Launch) (dC : Nat → ClassId) (dI : Nat → Nat → Nat) (o : Nat → Nat) (k : Nat → ClassId) (R C : Nat → Nat → Int32) (n : Nat) (f : Nat → Int32) (d : Nat) (g : Nat → Int32) (hn : n ≤ 77) (p0 zw zv : Int32) (hw : zw = 0 ∨ zw = 1) : MetI l yX3_begin wsX3_begin ({ frames := 4, cells := 0, slots := 0, locals := 96 } : Room) (dC, dI) vwCl (wX o k R C n f d g) (tyX k) [.ref (o 0), .int p0, .int zw, .int zv] (bgX C n p0) (wS o k (bgS (R, C, n, f, d, g) p0 zw zv)) := by
  refine MetI.of (cc := cX3_begin) (maxL := 5) (ret := (some .int)) (by decide) rfl (Nat.le_of_ble_eq_true rfl) rfl ?_
  intro p e s m below meth cd ls A hx hb hr hlk hml hown hts hK hP hD hS hA hl
  have hl : lv_has ls 5 [(0, .ref (o 0)), (1, .int p0), (2, .int zw), (3, .int zv)] := hl
  refine lv_iload_n hx hb dX3_begin_0 rfl (lv_at hl 1 rfl) ?_
  refine goS (va_runS (rm := ({ frames := 0, cells := 0, slots := 0, locals := 0 } : Room)) (As := [.int p0]) (rest := []) ⟨hx, hb, hml, hown, hts⟩ (MetS.at (k_X3_isClient l dC dI p0)) (va_cwS 1 hts gX3_begin_X3_isClient rfl rfl rfl (by decide +kernel) ⟨Nat.le_of_ble_eq_true rfl, Nat.le_of_ble_eq_true rfl⟩) (preSS (hK.sub [] rfl) va_P0) rfl rfl hl.1 rfl (lv_room (Nat.le_of_ble_eq_true rfl)) dX3_begin_1 ⟨Nat.le_of_ble_eq_true rfl, Nat.le_of_ble_eq_true rfl⟩) ?_
  refine lv_if_ne (tgt := 9) hx hb dX3_begin_4 (by decide) (fun c_4 => ?_) (fun c_4 => ?_)
  · have c_4 := it_yes c_4
    obtain ⟨j, lt_j, rfl⟩ := okI_of c_4 (Nat.le_of_ble_eq_true rfl)
    have e_j : (nI j).toNatClampNeg = j := nI_clamp (by omega)
    refine lv_aload_n hx hb dX3_begin_9 rfl (lv_at hl 0 rfl) ?_
    refine va_get (D := (dC, dI)) (ci := 3) (v := .ref (o 2)) (C := RX3) (T := TX3) (N := 4) hx hb hts inX3_begin_X3 hown hK hP (0) rfl rfl 1 (by decide) (hts _ lkX3_begin_18) (fun _ h9 => h9) rfl dX3_begin_10 ?_
    refine lv_iload_n hx hb dX3_begin_13 rfl (lv_at hl 1 rfl) ?_
    refine q_aald hx hb hK hP (2) 1 (j := j) rfl rfl lt_j (Nat.le_of_ble_eq_true rfl) dX3_begin_14 ?_
    refine lv_astore (lv' := [(4, .ref (o (12 + j))), (0, .ref (o 0)), (1, .int (nI j)), (2, .int zw), (3, .int zv)]) hx hb dX3_begin_15 hl (by decide) rfl (fun ls hl => ?_)
    refine lv_aload hx hb dX3_begin_17 (lv_at hl 0 rfl) ?_
    refine va_get (D := (dC, dI)) (ci := 0) (v := .int (C j 0)) (C := RX0) (T := TX0) (N := 8) hx hb hts inX3_begin_X0 hown hK hP (12 + j) (wX_C lt_j) rfl 0 (by decide) (hts _ lkX3_begin_43) (fun _ h9 => h9) rfl dX3_begin_19 ?_
    refine lv_if_eq (tgt := 28) hx hb dX3_begin_22 (by decide) (fun c_22 => ?_) (fun c_22 => ?_)
    · refine lv_aload_n hx hb dX3_begin_28 rfl (lv_at hl 1 rfl) ?_
      refine goS (va_runV (rm := ({ frames := 0, cells := 0, slots := 0, locals := 0 } : Room)) (As := []) (rest := []) ⟨hx, hb, hml, hown, hts⟩ (MetS.at (k_X3_isCrowded l dC dI o k R C n f d g hn)) (cwV 0 hts gX3_begin_X3_isCrowded rfl rfl rfl (by decide +kernel) ⟨Nat.le_of_ble_eq_true rfl, Nat.le_of_ble_eq_true rfl⟩) (preSV hK hP (va_recv hK hP (ci := 3) (q0 := 0) rfl rfl)) rfl rfl hl.1 rfl (lv_room (Nat.le_of_ble_eq_true rfl)) dX3_begin_29 ⟨Nat.le_of_ble_eq_true rfl, Nat.le_of_ble_eq_true rfl⟩) ?_
      refine lv_if_eq (tgt := 38) hx hb dX3_begin_32 (by decide) (fun c_32 => ?_) (fun c_32 => ?_)
      · have c_32 := it_no c_32
        refine lv_aload hx hb dX3_begin_38 (lv_at hl 0 rfl) ?_
        refine lv_dup hx hb dX3_begin_40 rfl ?_
        refine va_get (D := (dC, dI)) (ci := 0) (v := .int (C j 1)) (C := RX0) (T := TX0) (N := 8) hx hb hts inX3_begin_X0 hown hK hP (12 + j) (wX_C lt_j) rfl 1 (by decide) (hts _ lkX3_begin_105) (fun _ h9 => h9) rfl dX3_begin_41 ?_
        refine lv_iconst (v := nI 1) hx hb dX3_begin_44 (by decide) ?_
        refine lv_iadd hx hb dX3_begin_45 ?_
        refine q_put (D := (dC, dI)) (ci := 0) (v := .int ((C j 1) + (nI 1))) (ty := .int) (C := RX0) (T := TX0) (N := 8) (ws' := (wX o k R (up2 C j 1 ((C j 1) + (nI 1))) n f d g)) hx hb hts inX3_begin_X0 tyX0 tyX0_ok nmX0 hown hK hP hD hS (12 + j) (wX_C lt_j) rfl 1 (by decide) (hts _ lkX3_begin_105) (fun _ h9 => h9) rfl (by decide +kernel) rfl rfl (Nat.le_of_ble_eq_true rfl) (wX_setC lt_j _ _ _ _ _ _ _ _ (by simp [up2]) (by intro a b h; simp [up2, h])) dX3_begin_46 (fun H locs hP hD hS => ?_)
        refine lv_aload hx hb dX3_begin_49 (lv_at hl 0 rfl) ?_
        refine lv_iload_n hx hb dX3_begin_51 rfl (lv_at hl 3 rfl) ?_
        refine q_put (D := (dC, dI)) (ci := 0) (v := .int zw) (ty := .boolean) (C := RX0) (T := TX0) (N := 8) (ws' := (wX o k R (up2 (up2 C j 1 ((C j 1) + (nI 1))) j 2 zw) n f d g)) hx hb hts inX3_begin_X0 tyX0 tyX0_ok nmX0 hown hK hP hD hS (12 + j) (wX_C lt_j) rfl 2 (by decide) (hts _ lkX3_begin_108) (fun _ h9 => h9) rfl (by decide +kernel) (bz hw) (bf hw) (Nat.le_of_ble_eq_true rfl) (wX_setC lt_j _ _ _ _ _ _ _ _ (by simp [up2]) (by intro a b h; simp [up2, h])) dX3_begin_52 (fun H locs hP hD hS => ?_)
        refine lv_aload hx hb dX3_begin_55 (lv_at hl 0 rfl) ?_
        refine lv_iload_n hx hb dX3_begin_57 rfl (lv_at hl 4 rfl) ?_
        refine q_put (D := (dC, dI)) (ci := 0) (v := .int zv) (ty := .int) (C := RX0) (T := TX0) (N := 8) (ws' := (wX o k R (up2 (up2 (up2 C j 1 ((C j 1) + (nI 1))) j 2 zw) j 3 zv) n f d g)) hx hb hts inX3_begin_X0 tyX0 tyX0_ok nmX0 hown hK hP hD hS (12 + j) (wX_C lt_j) rfl 3 (by decide) (hts _ lkX3_begin_111) (fun _ h9 => h9) rfl (by decide +kernel) rfl rfl (Nat.le_of_ble_eq_true rfl) (wX_setC lt_j _ _ _ _ _ _ _ _ (by simp [up2]) (by intro a b h; simp [up2, h])) dX3_begin_58 (fun H locs hP hD hS => ?_)
        refine lv_aload hx hb dX3_begin_61 (lv_at hl 0 rfl) ?_
        refine lv_iconst (v := nI 0) hx hb dX3_begin_63 (by decide) ?_
        refine q_put (D := (dC, dI)) (ci := 0) (v := .int (nI 0)) (ty := .int) (C := RX0) (T := TX0) (N := 8) (ws' := (wX o k R (up2 (up2 (up2 (up2 C j 1 ((C j 1) + (nI 1))) j 2 zw) j 3 zv) j 5 (nI 0)) n f d g)) hx hb hts inX3_begin_X0 tyX0 tyX0_ok nmX0 hown hK hP hD hS (12 + j) (wX_C lt_j) rfl 5 (by decide) (hts _ lkX3_begin_114) (fun _ h9 => h9) rfl (by decide +kernel) rfl rfl (Nat.le_of_ble_eq_true rfl) (wX_setC lt_j _ _ _ _ _ _ _ _ (by simp [up2]) (by intro a b h; simp [up2, h])) dX3_begin_64 (fun H locs hP hD hS => ?_)
        refine lv_aload hx hb dX3_begin_67 (lv_at hl 0 rfl) ?_
        refine lv_iconst (v := nI 0) hx hb dX3_begin_69 (by decide) ?_
        refine q_put (D := (dC, dI)) (ci := 0) (v := .int (nI 0)) (ty := .int) (C := RX0) (T := TX0) (N := 8) (ws' := (wX o k R (up2 (up2 (up2 (up2 (up2 C j 1 ((C j 1) + (nI 1))) j 2 zw) j 3 zv) j 5 (nI 0)) j 6 (nI 0)) n f d g)) hx hb hts inX3_begin_X0 tyX0 tyX0_ok nmX0 hown hK hP hD hS (12 + j) (wX_C lt_j) rfl 6 (by decide) (hts _ lkX3_begin_115) (fun _ h9 => h9) rfl (by decide +kernel) rfl rfl (Nat.le_of_ble_eq_true rfl) (wX_setC lt_j _ _ _ _ _ _ _ _ (by simp [up2]) (by intro a b h; simp [up2, h])) dX3_begin_70 (fun H locs hP hD hS => ?_)
        refine lv_aload hx hb dX3_begin_73 (lv_at hl 0 rfl) ?_
        refine lv_iconst (v := nI 1) hx hb dX3_begin_75 (by decide) ?_
        refine goV (ws := (wX o k R (up2 (up2 (up2 (up2 (up2 C j 1 ((C j 1) + (nI 1))) j 2 zw) j 3 zv) j 5 (nI 0)) j 6 (nI 0)) n f d g)) (ws' := (wX o k R (up2 (up2 (up2 (up2 (up2 (up2 (up2 C j 1 ((C j 1) + (nI 1))) j 2 zw) j 3 zv) j 5 (nI 0)) j 6 (nI 0)) j 0 (nI 1)) j 4 (nI 0)) n f d g)) (show qFit (wX o k R (up2 (up2 (up2 (up2 (up2 C j 1 ((C j 1) + (nI 1))) j 2 zw) j 3 zv) j 5 (nI 0)) j 6 (nI 0)) n f d g) (wC (o (12 + j)) ((up2 (up2 (up2 (up2 (up2 C j 1 ((C j 1) + (nI 1))) j 2 zw) j 3 zv) j 5 (nI 0)) j 6 (nI 0)) j)) [(o (12 + j), .inr (0, [.int (nI 1), .int ((up2 (up2 (up2 (up2 (up2 C j 1 ((C j 1) + (nI 1))) j 2 zw) j 3 zv) j 5 (nI 0)) j 6 (nI 0)) j 1), .int ((up2 (up2 (up2 (up2 (up2 C j 1 ((C j 1) + (nI 1))) j 2 zw) j 3 zv) j 5 (nI 0)) j 6 (nI 0)) j 2), .int ((up2 (up2 (up2 (up2 (up2 C j 1 ((C j 1) + (nI 1))) j 2 zw) j 3 zv) j 5 (nI 0)) j 6 (nI 0)) j 3), .int (nI 0), .int ((up2 (up2 (up2 (up2 (up2 C j 1 ((C j 1) + (nI 1))) j 2 zw) j 3 zv) j 5 (nI 0)) j 6 (nI 0)) j 5), .int ((up2 (up2 (up2 (up2 (up2 C j 1 ((C j 1) + (nI 1))) j 2 zw) j 3 zv) j 5 (nI 0)) j 6 (nI 0)) j 6), .int ((up2 (up2 (up2 (up2 (up2 C j 1 ((C j 1) + (nI 1))) j 2 zw) j 3 zv) j 5 (nI 0)) j 6 (nI 0)) j 7)]))] (wX o k R (up2 (up2 (up2 (up2 (up2 (up2 (up2 C j 1 ((C j 1) + (nI 1))) j 2 zw) j 3 zv) j 5 (nI 0)) j 6 (nI 0)) j 0 (nI 1)) j 4 (nI 0)) n f d g) from qFit1 hD (wX_C lt_j) (wX_setC lt_j _ _ _ _ _ _ _ _ (by simp [up2]) (by intro a b h; simp [up2, h]))) hP hD hS hA (va_runV (rm := ({ frames := 0, cells := 0, slots := 0, locals := 0 } : Room)) (As := [.int (nI 1)]) (rest := []) ⟨hx, hb, hml, hown, hts⟩ (MetV.at (k_X0_enter l dC dI (o (12 + j)) ((up2 (up2 (up2 (up2 (up2 C j 1 ((C j 1) + (nI 1))) j 2 zw) j 3 zv) j 5 (nI 0)) j 6 (nI 0)) j) (nI 1)) H.size) (cwV 1 hts gX3_begin_X0_enter rfl rfl rfl (by decide +kernel) ⟨Nat.le_of_ble_eq_true rfl, Nat.le_of_ble_eq_true rfl⟩) (preWV (hK.sub [] rfl) (va_P1 hP (wX_C lt_j)) va_D1 (va_recv hK hP (ci := 0) (q0 := 12 + j) rfl (wX_C lt_j))) rfl rfl hl.1 rfl (lv_room (Nat.le_of_ble_eq_true rfl)) dX3_begin_76 ⟨Nat.le_of_ble_eq_true rfl, Nat.le_of_ble_eq_true rfl⟩) (fun H locs hP hD hS => ?_)
        have hP : va_P (dC, dI) vwCl (wX o k R (begC C j zw zv) n f d g) H := hP
        have hD : va_D A (wX o k R (begC C j zw zv) n f d g) := hD
        refine lv_aload_n hx hb dX3_begin_79 rfl (lv_at hl 1 rfl) ?_
        refine lv_iconst (v := nI 0) hx hb dX3_begin_80 (by decide) ?_
        refine lv_iload_n hx hb dX3_begin_81 rfl (lv_at hl 2 rfl) ?_
        refine lv_iconst (v := nI 0) hx hb dX3_begin_82 (by decide) ?_
        refine lv_iconst (v := nI 0) hx hb dX3_begin_83 (by decide) ?_
        refine goV (ws := (wX o k R (begC C j zw zv) n f d g)) (ws' := (wX o k R (begC C j zw zv) (n + 5) (sndN (nI 0) (nI j) ((begC C j zw zv) j 1) (nI 0) (nI 0) f n 5) d g)) (qFit_all rfl) hP hD hS hA (va_runV (rm := ({ frames := 3, cells := 0, slots := 0, locals := 71 } : Room)) (As := [.int (nI 0), .int (nI j), .int (nI 0), .int (nI 0)]) (rest := []) ⟨hx, hb, hml, hown, hts⟩ (MetV.at (k_X3_sendToAll l dC dI o k R (begC C j zw zv) n f d g (by omega) j lt_j (nI 0) (nI 0) (nI 0)) H.size) (cwV 4 hts gX3_begin_X3_sendToAll rfl rfl rfl (by decide +kernel) ⟨Nat.le_of_ble_eq_true rfl, Nat.le_of_ble_eq_true rfl⟩) (preWV hK hP hD (va_recv hK hP (ci := 3) (q0 := 0) rfl rfl)) rfl rfl hl.1 rfl (lv_room (Nat.le_of_ble_eq_true rfl)) dX3_begin_84 ⟨Nat.le_of_ble_eq_true rfl, Nat.le_of_ble_eq_true rfl⟩) (fun H locs hP hD hS => ?_)
        refine lv_aload hx hb dX3_begin_87 (lv_at hl 0 rfl) ?_
        refine va_get (D := (dC, dI)) (ci := 0) (v := .int ((begC C j zw zv) j 1)) (C := RX0) (T := TX0) (N := 8) hx hb hts inX3_begin_X0 hown hK hP (12 + j) (wX_C lt_j) rfl 1 (by decide) (hts _ lkX3_begin_105) (fun _ h9 => h9) rfl dX3_begin_89 ?_
        exact retI hx hb hr hlk dX3_begin_92 hS (by rw [bgS, if_pos ⟨c_4, by rw [e_j]; exact c_22, c_32⟩, e_j]; simpa only [wS, begC1] using hP) (by rw [bgX, if_pos c_4, e_j, if_pos c_22, if_neg c_32, begC1])
      · have c_32 := it_yes c_32
        refine lv_bipush (v := (-3)) hx hb dX3_begin_35 (by decide) ?_
        exact retI hx hb hr hlk dX3_begin_37 hS (by rw [bgS, if_neg (fun q => q.2.2 c_32)]; exact hP) (by rw [bgX, if_pos c_4, e_j, if_pos c_22, if_pos c_32])
    · refine lv_bipush (v := (-2)) hx hb dX3_begin_25 (by decide) ?_
      exact retI hx hb hr hlk dX3_begin_27 hS (by rw [bgS, if_neg (fun q => c_22 (by have := q.2.1; rw [e_j] at this; exact this))]; exact hP) (by rw [bgX, if_pos c_4, e_j, if_neg c_22])
  · have c_4 := it_no c_4
    refine lv_iconst (v := (-1)) hx hb dX3_begin_7 (by decide) ?_
    exact retI hx hb hr hlk dX3_begin_8 hS (by rw [bgS, if_neg (fun q => c_4 q.1)]; exact hP) ((by rw [bgX, if_neg c_4]))
set_option maxHeartbeats 4000000 in
set_option maxRecDepth 100000 in
/-- X3_write -/
theorem k_X3_write (l : Launch) (dC : Nat → ClassId) (dI : Nat → Nat → Nat) (o : Nat → Nat) (k : Nat → ClassId) (R C : Nat → Nat → Int32) (n : Nat) (f : Nat → Int32) (d : Nat) (g : Nat → Int32) (hn : n ≤ 77) (p0 p1 : Int32) : MetI l yX3_write wsX3_write ({ frames := 5, cells := 0, slots := 0, locals := 120 } : Room) (dC, dI) vwCl (wX o k R C n f d g) (tyX k) [.ref (o 0), .int p0, .int p1] (bgX C n p0) (wS o k (bgS (R, C, n, f, d, g) p0 (nI 1) (p1))) := by
  refine MetI.of (cc := cX3_write) (maxL := 3) (ret := (some .int)) (by decide) rfl (Nat.le_of_ble_eq_true rfl) rfl ?_
  intro p e s m below meth cd ls A hx hb hr hlk hml hown hts hK hP hD hS hA hl
  have hl : lv_has ls 3 [(0, .ref (o 0)), (1, .int p0), (2, .int p1)] := hl
  refine lv_aload_n hx hb dX3_write_0 rfl (lv_at hl 0 rfl) ?_
  refine lv_iload_n hx hb dX3_write_1 rfl (lv_at hl 1 rfl) ?_
  refine lv_iconst (v := nI 1) hx hb dX3_write_2 (by decide) ?_
  refine lv_iload_n hx hb dX3_write_3 rfl (lv_at hl 2 rfl) ?_
  refine goI (ws := (wX o k R C n f d g)) (ws' := (wS o k (bgS (R, C, n, f, d, g) p0 (nI 1) p1))) (qFit_all rfl) hP hD hS hA (va_runV (rm := ({ frames := 4, cells := 0, slots := 0, locals := 96 } : Room)) (As := [.int p0, .int (nI 1), .int p1]) (rest := []) ⟨hx, hb, hml, hown, hts⟩ (MetI.at (k_X3_begin l dC dI o k R C n f d g hn p0 (nI 1) p1 (Or.inr rfl)) s.heap.size) (cwV 3 hts gX3_write_X3_begin rfl rfl rfl (by decide +kernel) ⟨Nat.le_of_ble_eq_true rfl, Nat.le_of_ble_eq_true rfl⟩) (preWV hK hP hD (va_recv hK hP (ci := 3) (q0 := 0) rfl rfl)) rfl rfl hl.1 rfl (lv_room (Nat.le_of_ble_eq_true rfl)) dX3_write_4 ⟨Nat.le_of_ble_eq_true rfl, Nat.le_of_ble_eq_true rfl⟩) (fun H locs hP hD hS => ?_)
  exact retI hx hb hr hlk dX3_write_7 hS (hP) (rfl)
set_option maxHeartbeats 4000000 in
set_option maxRecDepth 100000 in
/-- X3_read -/
theorem k_X3_read (l : Launch) (dC : Nat → ClassId) (dI : Nat → Nat → Nat) (o : Nat → Nat) (k : Nat → ClassId) (R C : Nat → Nat → Int32) (n : Nat) (f : Nat → Int32) (d : Nat) (g : Nat → Int32) (hn : n ≤ 77) (p0 : Int32) : MetI l yX3_read wsX3_read ({ frames := 5, cells := 0, slots := 0, locals := 120 } : Room) (dC, dI) vwCl (wX o k R C n f d g) (tyX k) [.ref (o 0), .int p0] (bgX C n p0) (wS o k (bgS (R, C, n, f, d, g) p0 (nI 0) (nI 0))) := by
  refine MetI.of (cc := cX3_read) (maxL := 2) (ret := (some .int)) (by decide) rfl (Nat.le_of_ble_eq_true rfl) rfl ?_
  intro p e s m below meth cd ls A hx hb hr hlk hml hown hts hK hP hD hS hA hl
  have hl : lv_has ls 2 [(0, .ref (o 0)), (1, .int p0)] := hl
  refine lv_aload_n hx hb dX3_read_0 rfl (lv_at hl 0 rfl) ?_
  refine lv_iload_n hx hb dX3_read_1 rfl (lv_at hl 1 rfl) ?_
  refine lv_iconst (v := nI 0) hx hb dX3_read_2 (by decide) ?_
  refine lv_iconst (v := nI 0) hx hb dX3_read_3 (by decide) ?_
  refine goI (ws := (wX o k R C n f d g)) (ws' := (wS o k (bgS (R, C, n, f, d, g) p0 (nI 0) (nI 0)))) (qFit_all rfl) hP hD hS hA (va_runV (rm := ({ frames := 4, cells := 0, slots := 0, locals := 96 } : Room)) (As := [.int p0, .int (nI 0), .int (nI 0)]) (rest := []) ⟨hx, hb, hml, hown, hts⟩ (MetI.at (k_X3_begin l dC dI o k R C n f d g hn p0 (nI 0) (nI 0) (Or.inl rfl)) s.heap.size) (cwV 3 hts gX3_read_X3_begin rfl rfl rfl (by decide +kernel) ⟨Nat.le_of_ble_eq_true rfl, Nat.le_of_ble_eq_true rfl⟩) (preWV hK hP hD (va_recv hK hP (ci := 3) (q0 := 0) rfl rfl)) rfl rfl hl.1 rfl (lv_room (Nat.le_of_ble_eq_true rfl)) dX3_read_4 ⟨Nat.le_of_ble_eq_true rfl, Nat.le_of_ble_eq_true rfl⟩) (fun H locs hP hD hS => ?_)
  exact retI hx hb hr hlk dX3_read_7 hS (hP) (rfl)
theorem lkX3_leave_18 : Cond.fieldLink RX3 18 "QuorumRegister" "clients" "[LQuorumRegister$Client;" ∈ wsX3_leave := by decide +kernel
theorem inX3_leave_X3 : ∀ w ∈ wsX30, w ∈ wsX3_leave := by decide +kernel
theorem lkX3_leave_43 : Cond.fieldLink RX3 43 "QuorumRegister$Client" "phase" "I" ∈ wsX3_leave := by decide +kernel
theorem inX3_leave_X0 : ∀ w ∈ wsX00, w ∈ wsX3_leave := by decide +kernel
set_option maxHeartbeats 4000000 in
set_option maxRecDepth 100000 in
/-- leave(c) -/
theorem k_X3_leave (l : Launch) (dC : Nat → ClassId) (dI : Nat → Nat → Nat) (o : Nat → Nat) (k : Nat → ClassId) (R C : Nat → Nat → Int32) (n : Nat) (f : Nat → Int32) (d : Nat) (g : Nat → Int32) (p0 : Int32) : MetI l yX3_leave wsX3_leave ({ frames := 1, cells := 0, slots := 0, locals := 21 } : Room) (dC, dI) vwCl (wX o k R C n f d g) (tyX k) [.ref (o 0), .int p0] (lvX C p0) (wS o k (lvS (R, C, n, f, d, g) p0)) := by
  refine MetI.of (cc := cX3_leave) (maxL := 2) (ret := (some .boolean)) (by decide) rfl (Nat.le_of_ble_eq_true rfl) rfl ?_
  intro p e s m below meth cd ls A hx hb hr hlk hml hown hts hK hP hD hS hA hl
  have hl : lv_has ls 2 [(0, .ref (o 0)), (1, .int p0)] := hl
  refine lv_iload_n hx hb dX3_leave_0 rfl (lv_at hl 1 rfl) ?_
  refine goS (va_runS (rm := ({ frames := 0, cells := 0, slots := 0, locals := 0 } : Room)) (As := [.int p0]) (rest := []) ⟨hx, hb, hml, hown, hts⟩ (MetS.at (k_X3_isClient l dC dI p0)) (va_cwS 1 hts gX3_leave_X3_isClient rfl rfl rfl (by decide +kernel) ⟨Nat.le_of_ble_eq_true rfl, Nat.le_of_ble_eq_true rfl⟩) (preSS (hK.sub [] rfl) va_P0) rfl rfl hl.1 rfl (lv_room (Nat.le_of_ble_eq_true rfl)) dX3_leave_1 ⟨Nat.le_of_ble_eq_true rfl, Nat.le_of_ble_eq_true rfl⟩) ?_
  refine lv_if_eq (tgt := 19) hx hb dX3_leave_4 (by decide) (fun c_4 => ?_) (fun c_4 => ?_)
  · have c_4 := it_no c_4
    refine lv_iconst (v := nI 0) hx hb dX3_leave_19 (by decide) ?_
    exact retIz hx hb hr hlk dX3_leave_20 rfl hS (by rw [lvS, if_neg (fun q => c_4 q.1)]; exact hP) (by rw [lvX, if_neg (fun q => c_4 q.1)]; rfl)
  · have c_4 := it_yes c_4
    obtain ⟨j, lt_j, rfl⟩ := okI_of c_4 (Nat.le_of_ble_eq_true rfl)
    have e_j : (nI j).toNatClampNeg = j := nI_clamp (by omega)
    refine lv_aload_n hx hb dX3_leave_7 rfl (lv_at hl 0 rfl) ?_
    refine va_get (D := (dC, dI)) (ci := 3) (v := .ref (o 2)) (C := RX3) (T := TX3) (N := 4) hx hb hts inX3_leave_X3 hown hK hP (0) rfl rfl 1 (by decide) (hts _ lkX3_leave_18) (fun _ h9 => h9) rfl dX3_leave_8 ?_
    refine lv_iload_n hx hb dX3_leave_11 rfl (lv_at hl 1 rfl) ?_
    refine q_aald hx hb hK hP (2) 1 (j := j) rfl rfl lt_j (Nat.le_of_ble_eq_true rfl) dX3_leave_12 ?_
    refine va_get (D := (dC, dI)) (ci := 0) (v := .int (C j 0)) (C := RX0) (T := TX0) (N := 8) hx hb hts inX3_leave_X0 hown hK hP (12 + j) (wX_C lt_j) rfl 0 (by decide) (hts _ lkX3_leave_43) (fun _ h9 => h9) rfl dX3_leave_13 ?_
    refine lv_if_ne (tgt := 21) hx hb dX3_leave_16 (by decide) (fun c_16 => ?_) (fun c_16 => ?_)
    · refine lv_aload_n hx hb dX3_leave_21 rfl (lv_at hl 0 rfl) ?_
      refine va_get (D := (dC, dI)) (ci := 3) (v := .ref (o 2)) (C := RX3) (T := TX3) (N := 4) hx hb hts inX3_leave_X3 hown hK hP (0) rfl rfl 1 (by decide) (hts _ lkX3_leave_18) (fun _ h9 => h9) rfl dX3_leave_22 ?_
      refine lv_iload_n hx hb dX3_leave_25 rfl (lv_at hl 1 rfl) ?_
      refine q_aald hx hb hK hP (2) 1 (j := j) rfl rfl lt_j (Nat.le_of_ble_eq_true rfl) dX3_leave_26 ?_
      refine lv_iconst (v := nI 0) hx hb dX3_leave_27 (by decide) ?_
      refine goV (ws := (wX o k R C n f d g)) (ws' := (wX o k R (up2 (up2 C j 0 (nI 0)) j 4 (nI 0)) n f d g)) (show qFit (wX o k R C n f d g) (wC (o (12 + j)) (C j)) [(o (12 + j), .inr (0, [.int (nI 0), .int (C j 1), .int (C j 2), .int (C j 3), .int (nI 0), .int (C j 5), .int (C j 6), .int (C j 7)]))] (wX o k R (up2 (up2 C j 0 (nI 0)) j 4 (nI 0)) n f d g) from qFit1 hD (wX_C lt_j) (wX_setC lt_j _ _ _ _ _ _ _ _ (by simp [up2]) (by intro a b h; simp [up2, h]))) hP hD hS hA (va_runV (rm := ({ frames := 0, cells := 0, slots := 0, locals := 0 } : Room)) (As := [.int (nI 0)]) (rest := []) ⟨hx, hb, hml, hown, hts⟩ (MetV.at (k_X0_enter l dC dI (o (12 + j)) (C j) (nI 0)) s.heap.size) (cwV 1 hts gX3_leave_X0_enter rfl rfl rfl (by decide +kernel) ⟨Nat.le_of_ble_eq_true rfl, Nat.le_of_ble_eq_true rfl⟩) (preWV (hK.sub [] rfl) (va_P1 hP (wX_C lt_j)) va_D1 (va_recv hK hP (ci := 0) (q0 := 12 + j) rfl (wX_C lt_j))) rfl rfl hl.1 rfl (lv_room (Nat.le_of_ble_eq_true rfl)) dX3_leave_28 ⟨Nat.le_of_ble_eq_true rfl, Nat.le_of_ble_eq_true rfl⟩) (fun H locs hP hD hS => ?_)
      have hP : va_P (dC, dI) vwCl (wX o k R (idlC C j) n f d g) H := hP
      have hD : va_D A (wX o k R (idlC C j) n f d g) := hD
      refine lv_iconst (v := nI 1) hx hb dX3_leave_31 (by decide) ?_
      exact retIz hx hb hr hlk dX3_leave_32 rfl hS (by rw [lvS, if_pos ⟨c_4, by rw [e_j]; exact c_16⟩, e_j]; exact hP) (by rw [lvX, if_pos ⟨c_4, by rw [e_j]; exact c_16⟩]; rfl)
    · refine lv_iconst (v := nI 0) hx hb dX3_leave_19 (by decide) ?_
      exact retIz hx hb hr hlk dX3_leave_20 rfl hS (by rw [lvS, if_neg (fun q => q.2 (by rw [e_j]; exact c_16))]; exact hP) (by rw [lvX, if_neg (fun q => q.2 (by rw [e_j]; exact c_16))]; rfl)
