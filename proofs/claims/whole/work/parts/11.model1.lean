/-! the reference: its private methods -/
set_option maxHeartbeats 4000000 in
set_option maxRecDepth 100000 in
/-- within(x, least, most) -/
theorem k_X4_within (l : Launch) (dC : Nat → ClassId) (dI : Nat → Nat → Nat) (x a b : Int32) : MetS l yX4_within wsX4_within ({ frames := 0, cells := 0, slots := 0, locals := 0 } : Room) (dC, dI) vwCl ([]) ([]) [.int x, .int a, .int b] (if wi x a b then 1 else 0) := by
  refine MetS.of (cc := cX4_within) (maxL := 3) (ret := (some .boolean)) (by decide) rfl (Nat.le_of_ble_eq_true rfl) rfl ?_
  intro p e s m below meth cd ls hx hb hr hlk hml hown hts hK hP hl
  have hl : lv_has ls 3 [(0, .int x), (1, .int a), (2, .int b)] := hl
  refine lv_iload_n hx hb dX4_within_0 rfl (lv_at hl 0 rfl) ?_
  refine lv_iload_n hx hb dX4_within_1 rfl (lv_at hl 1 rfl) ?_
  refine lv_icmp_lt (tgt := 14) hx hb dX4_within_2 (by decide) (fun c_2 => ?_) (fun c_2 => ?_)
  · refine lv_iconst (v := nI 0) hx hb dX4_within_14 (by decide) ?_
    exact retSz hx hb hr hlk dX4_within_15 rfl ((if_neg (fun q => q.1 c_2)).symm)
  · refine lv_iload_n hx hb dX4_within_5 rfl (lv_at hl 0 rfl) ?_
    refine lv_iload_n hx hb dX4_within_6 rfl (lv_at hl 2 rfl) ?_
    refine lv_icmp_gt (tgt := 14) hx hb dX4_within_7 (by decide) (fun c_7 => ?_) (fun c_7 => ?_)
    · refine lv_iconst (v := nI 0) hx hb dX4_within_14 (by decide) ?_
      exact retSz hx hb hr hlk dX4_within_15 rfl ((if_neg (fun q => q.2 c_7)).symm)
    · refine lv_iconst (v := nI 1) hx hb dX4_within_10 (by decide) ?_
      refine lv_goto (tgt := 15) hx hb dX4_within_11 (by decide) ?_
      exact retSz hx hb hr hlk dX4_within_15 rfl ((if_pos ⟨c_2, c_7⟩).symm)
theorem lkX4_send_50 : Cond.fieldLink RX4 50 "QuorumRegisterModel" "count" "I" ∈ wsX4_send := by decide +kernel
theorem inX4_send_X4 : ∀ w ∈ wsX40, w ∈ wsX4_send := by decide +kernel
theorem lkX4_send_44 : Cond.fieldLink RX4 44 "QuorumRegisterModel" "pool" "[I" ∈ wsX4_send := by decide +kernel
set_option maxHeartbeats 4000000 in
set_option maxRecDepth 100000 in
/-- send(..) -/
theorem k_X4_send (l : Launch) (dC : Nat → ClassId) (dI : Nat → Nat → Nat) (o : Nat → Nat) (k : Nat → ClassId) (r0 r1 r2 c0 c1 c2 c3 an c5 c6 c7 f g : Nat → Int32) (fl n d : Nat) (hn : n < 100) (zk zc zr zs zt zv : Int32) : MetV l yX4_send wsX4_send ({ frames := 0, cells := 0, slots := 0, locals := 0 } : Room) (dC, dI) vwCl (wMc o k r0 r1 r2 c0 c1 c2 c3 an c5 c6 c7 f g fl n d) (tyM k) [.ref (o 0), .int zk, .int zc, .int zr, .int zs, .int zt, .int zv] (wMc o k r0 r1 r2 c0 c1 c2 c3 an c5 c6 c7 (snd6 f n zk zc zr zs zt zv) g fl (n + 1) d) := by
  refine MetV.of (cc := cX4_send) (maxL := 8) (ret := none) (by decide) rfl (Nat.le_of_ble_eq_true rfl) rfl ?_
  intro p e s m below meth cd ls A hx hb hr hlk hml hown hts hK hP hD hS hA hl
  have hl : lv_has ls 8 [(0, .ref (o 0)), (1, .int zk), (2, .int zc), (3, .int zr), (4, .int zs), (5, .int zt), (6, .int zv)] := hl
  refine lv_bipush (v := nI 6) hx hb dX4_send_0 (by decide) ?_
  refine lv_aload_n hx hb dX4_send_2 rfl (lv_at hl 0 rfl) ?_
  refine va_get (D := (dC, dI)) (ci := 4) (v := .int (nI n)) (C := RX4) (T := TX4) (N := 16) hx hb hts inX4_send_X4 hown hK hP (0) rfl rfl 13 (by decide) (hts _ lkX4_send_50) (fun _ h9 => h9) rfl dX4_send_3 ?_
  refine lv_imul hx hb dX4_send_6 ?_
  refine qtop (y := nI (n * 6)) (mulc _ _) ?_
  refine lv_istore (lv' := [(7, .int (nI (n * 6))), (0, .ref (o 0)), (1, .int zk), (2, .int zc), (3, .int zr), (4, .int zs), (5, .int zt), (6, .int zv)]) hx hb dX4_send_7 hl (by decide) rfl (fun ls hl => ?_)
  refine lv_aload_n hx hb dX4_send_9 rfl (lv_at hl 1 rfl) ?_
  refine va_get (D := (dC, dI)) (ci := 4) (v := .ref (o 12)) (C := RX4) (T := TX4) (N := 16) hx hb hts inX4_send_X4 hown hK hP (0) rfl rfl 12 (by decide) (hts _ lkX4_send_44) (fun _ h9 => h9) rfl dX4_send_10 ?_
  refine lv_iload hx hb dX4_send_13 (lv_at hl 0 rfl) ?_
  refine lv_iload_n hx hb dX4_send_15 rfl (lv_at hl 2 rfl) ?_
  refine q_iast (ws' := (wMc o k r0 r1 r2 c0 c1 c2 c3 an c5 c6 c7 (upd f (n * 6) zk) g fl n d)) hx hb hK hP hD hS (12) 11 (j := n * 6) rfl rfl (by omega) (Nat.le_of_ble_eq_true rfl) rfl dX4_send_16 (fun H locs hP hD hS => ?_)
  refine lv_aload_n hx hb dX4_send_17 rfl (lv_at hl 1 rfl) ?_
  refine va_get (D := (dC, dI)) (ci := 4) (v := .ref (o 12)) (C := RX4) (T := TX4) (N := 16) hx hb hts inX4_send_X4 hown hK hP (0) rfl rfl 12 (by decide) (hts _ lkX4_send_44) (fun _ h9 => h9) rfl dX4_send_18 ?_
  refine lv_iload hx hb dX4_send_21 (lv_at hl 0 rfl) ?_
  refine lv_iconst (v := nI 1) hx hb dX4_send_23 (by decide) ?_
  refine lv_iadd hx hb dX4_send_24 ?_
  refine qtop (y := nI ((n * 6) + 1)) (nI_add _ _) ?_
  refine lv_iload_n hx hb dX4_send_25 rfl (lv_at hl 3 rfl) ?_
  refine q_iast (ws' := (wMc o k r0 r1 r2 c0 c1 c2 c3 an c5 c6 c7 (upd (upd f (n * 6) zk) ((n * 6) + 1) zc) g fl n d)) hx hb hK hP hD hS (12) 11 (j := (n * 6) + 1) rfl rfl (by omega) (Nat.le_of_ble_eq_true rfl) rfl dX4_send_26 (fun H locs hP hD hS => ?_)
  refine lv_aload_n hx hb dX4_send_27 rfl (lv_at hl 1 rfl) ?_
  refine va_get (D := (dC, dI)) (ci := 4) (v := .ref (o 12)) (C := RX4) (T := TX4) (N := 16) hx hb hts inX4_send_X4 hown hK hP (0) rfl rfl 12 (by decide) (hts _ lkX4_send_44) (fun _ h9 => h9) rfl dX4_send_28 ?_
  refine lv_iload hx hb dX4_send_31 (lv_at hl 0 rfl) ?_
  refine lv_iconst (v := nI 2) hx hb dX4_send_33 (by decide) ?_
  refine lv_iadd hx hb dX4_send_34 ?_
  refine qtop (y := nI ((n * 6) + 2)) (nI_add _ _) ?_
  refine lv_iload_n hx hb dX4_send_35 rfl (lv_at hl 4 rfl) ?_
  refine q_iast (ws' := (wMc o k r0 r1 r2 c0 c1 c2 c3 an c5 c6 c7 (upd (upd (upd f (n * 6) zk) ((n * 6) + 1) zc) ((n * 6) + 2) zr) g fl n d)) hx hb hK hP hD hS (12) 11 (j := (n * 6) + 2) rfl rfl (by omega) (Nat.le_of_ble_eq_true rfl) rfl dX4_send_36 (fun H locs hP hD hS => ?_)
  refine lv_aload_n hx hb dX4_send_37 rfl (lv_at hl 1 rfl) ?_
  refine va_get (D := (dC, dI)) (ci := 4) (v := .ref (o 12)) (C := RX4) (T := TX4) (N := 16) hx hb hts inX4_send_X4 hown hK hP (0) rfl rfl 12 (by decide) (hts _ lkX4_send_44) (fun _ h9 => h9) rfl dX4_send_38 ?_
  refine lv_iload hx hb dX4_send_41 (lv_at hl 0 rfl) ?_
  refine lv_iconst (v := nI 3) hx hb dX4_send_43 (by decide) ?_
  refine lv_iadd hx hb dX4_send_44 ?_
  refine qtop (y := nI ((n * 6) + 3)) (nI_add _ _) ?_
  refine lv_iload hx hb dX4_send_45 (lv_at hl 5 rfl) ?_
  refine q_iast (ws' := (wMc o k r0 r1 r2 c0 c1 c2 c3 an c5 c6 c7 (upd (upd (upd (upd f (n * 6) zk) ((n * 6) + 1) zc) ((n * 6) + 2) zr) ((n * 6) + 3) zs) g fl n d)) hx hb hK hP hD hS (12) 11 (j := (n * 6) + 3) rfl rfl (by omega) (Nat.le_of_ble_eq_true rfl) rfl dX4_send_47 (fun H locs hP hD hS => ?_)
  refine lv_aload_n hx hb dX4_send_48 rfl (lv_at hl 1 rfl) ?_
  refine va_get (D := (dC, dI)) (ci := 4) (v := .ref (o 12)) (C := RX4) (T := TX4) (N := 16) hx hb hts inX4_send_X4 hown hK hP (0) rfl rfl 12 (by decide) (hts _ lkX4_send_44) (fun _ h9 => h9) rfl dX4_send_49 ?_
  refine lv_iload hx hb dX4_send_52 (lv_at hl 0 rfl) ?_
  refine lv_iconst (v := nI 4) hx hb dX4_send_54 (by decide) ?_
  refine lv_iadd hx hb dX4_send_55 ?_
  refine qtop (y := nI ((n * 6) + 4)) (nI_add _ _) ?_
  refine lv_iload hx hb dX4_send_56 (lv_at hl 6 rfl) ?_
  refine q_iast (ws' := (wMc o k r0 r1 r2 c0 c1 c2 c3 an c5 c6 c7 (upd (upd (upd (upd (upd f (n * 6) zk) ((n * 6) + 1) zc) ((n * 6) + 2) zr) ((n * 6) + 3) zs) ((n * 6) + 4) zt) g fl n d)) hx hb hK hP hD hS (12) 11 (j := (n * 6) + 4) rfl rfl (by omega) (Nat.le_of_ble_eq_true rfl) rfl dX4_send_58 (fun H locs hP hD hS => ?_)
  refine lv_aload_n hx hb dX4_send_59 rfl (lv_at hl 1 rfl) ?_
  refine va_get (D := (dC, dI)) (ci := 4) (v := .ref (o 12)) (C := RX4) (T := TX4) (N := 16) hx hb hts inX4_send_X4 hown hK hP (0) rfl rfl 12 (by decide) (hts _ lkX4_send_44) (fun _ h9 => h9) rfl dX4_send_60 ?_
  refine lv_iload hx hb dX4_send_63 (lv_at hl 0 rfl) ?_
  refine lv_iconst (v := nI 5) hx hb dX4_send_65 (by decide) ?_
  refine lv_iadd hx hb dX4_send_66 ?_
  refine qtop (y := nI ((n * 6) + 5)) (nI_add _ _) ?_
  refine lv_iload hx hb dX4_send_67 (lv_at hl 7 rfl) ?_
  refine q_iast (ws' := (wMc o k r0 r1 r2 c0 c1 c2 c3 an c5 c6 c7 (upd (upd (upd (upd (upd (upd f (n * 6) zk) ((n * 6) + 1) zc) ((n * 6) + 2) zr) ((n * 6) + 3) zs) ((n * 6) + 4) zt) ((n * 6) + 5) zv) g fl n d)) hx hb hK hP hD hS (12) 11 (j := (n * 6) + 5) rfl rfl (by omega) (Nat.le_of_ble_eq_true rfl) rfl dX4_send_69 (fun H locs hP hD hS => ?_)
  refine lv_aload_n hx hb dX4_send_70 rfl (lv_at hl 1 rfl) ?_
  refine lv_dup hx hb dX4_send_71 rfl ?_
  refine va_get (D := (dC, dI)) (ci := 4) (v := .int (nI n)) (C := RX4) (T := TX4) (N := 16) hx hb hts inX4_send_X4 hown hK hP (0) rfl rfl 13 (by decide) (hts _ lkX4_send_50) (fun _ h9 => h9) rfl dX4_send_72 ?_
  refine lv_iconst (v := nI 1) hx hb dX4_send_75 (by decide) ?_
  refine lv_iadd hx hb dX4_send_76 ?_
  refine qtop (y := nI (n + 1)) (nI_add _ _) ?_
  refine q_put (D := (dC, dI)) (ci := 4) (v := .int (nI (n + 1))) (ty := .int) (C := RX4) (T := TX4) (N := 16) (ws' := (wMc o k r0 r1 r2 c0 c1 c2 c3 an c5 c6 c7 (upd (upd (upd (upd (upd (upd f (n * 6) zk) ((n * 6) + 1) zc) ((n * 6) + 2) zr) ((n * 6) + 3) zs) ((n * 6) + 4) zt) ((n * 6) + 5) zv) g fl (n + 1) d)) hx hb hts inX4_send_X4 tyX4 tyX4_ok nmX4 hown hK hP hD hS (0) rfl rfl 13 (by decide) (hts _ lkX4_send_50) (fun _ h9 => h9) rfl (by decide +kernel) rfl rfl (Nat.le_of_ble_eq_true rfl) rfl dX4_send_77 (fun H locs hP hD hS => ?_)
  exact retV hx hb hr hlk dX4_send_80 hS (hP)
theorem lkX4_sendAll_23 : Cond.fieldLink RX4 23 "QuorumRegisterModel" "serial" "[I" ∈ wsX4_sendAll := by decide +kernel
theorem inX4_sendAll_X4 : ∀ w ∈ wsX40, w ∈ wsX4_sendAll := by decide +kernel
set_option maxHeartbeats 4000000 in
set_option maxRecDepth 100000 in
/-- sendAll(..) -/
theorem k_X4_sendAll (l : Launch) (dC : Nat → ClassId) (dI : Nat → Nat → Nat) (o : Nat → Nat) (k : Nat → ClassId) (r0 r1 r2 c0 c1 c2 c3 an c5 c6 c7 f g : Nat → Int32) (fl n d : Nat) (hn : n + 5 ≤ 100) (c : Nat) (lt_c : c < 3) (zk zt zv : Int32) : MetV l yX4_sendAll wsX4_sendAll ({ frames := 1, cells := 0, slots := 0, locals := 27 } : Room) (dC, dI) vwCl (wMc o k r0 r1 r2 c0 c1 c2 c3 an c5 c6 c7 f g fl n d) (tyM k) [.ref (o 0), .int zk, .int (nI c), .int zt, .int zv] (wMc o k r0 r1 r2 c0 c1 c2 c3 an c5 c6 c7 (sndN zk (nI c) (c1 c) zt zv f n 5) g fl (n + 5) d) := by
  refine MetV.of (cc := cX4_sendAll) (maxL := 6) (ret := none) (by decide) rfl (Nat.le_of_ble_eq_true rfl) rfl ?_
  intro p e s m below meth cd ls A hx hb hr hlk hml hown hts hK hP hD hS hA hl
  have hl : lv_has ls 6 [(0, .ref (o 0)), (1, .int zk), (2, .int (nI c)), (3, .int zt), (4, .int zv)] := hl
  refine lv_iconst (v := nI 0) hx hb dX4_sendAll_0 (by decide) ?_
  refine lv_istore (lv' := [(5, .int (nI 0)), (0, .ref (o 0)), (1, .int zk), (2, .int (nI c)), (3, .int zt), (4, .int zv)]) hx hb dX4_sendAll_1 hl (by decide) rfl (fun ls hl => ?_)
  refine lv_iload hx hb dX4_sendAll_3 (lv_at hl 0 rfl) ?_
  refine lv_iconst (v := nI 5) hx hb dX4_sendAll_5 (by decide) ?_
  refine lv_icmp_ge (tgt := 32) hx hb dX4_sendAll_6 (by decide) (fun c9 => absurd c9 (by decide +kernel)) (fun _ => ?_)
  refine lv_aload_n hx hb dX4_sendAll_9 rfl (lv_at hl 1 rfl) ?_
  refine lv_iload_n hx hb dX4_sendAll_10 rfl (lv_at hl 2 rfl) ?_
  refine lv_iload_n hx hb dX4_sendAll_11 rfl (lv_at hl 3 rfl) ?_
  refine lv_iload hx hb dX4_sendAll_12 (lv_at hl 0 rfl) ?_
  refine lv_aload_n hx hb dX4_sendAll_14 rfl (lv_at hl 1 rfl) ?_
  refine va_get (D := (dC, dI)) (ci := 4) (v := .ref (o 5)) (C := RX4) (T := TX4) (N := 16) hx hb hts inX4_sendAll_X4 hown hK hP (0) rfl rfl 5 (by decide) (hts _ lkX4_sendAll_23) (fun _ h9 => h9) rfl dX4_sendAll_15 ?_
  refine lv_iload_n hx hb dX4_sendAll_18 rfl (lv_at hl 3 rfl) ?_
  refine q_iald hx hb hK hP (5) 4 (j := c) rfl rfl lt_c (Nat.le_of_ble_eq_true rfl) dX4_sendAll_19 ?_
  refine lv_iload_n hx hb dX4_sendAll_20 rfl (lv_at hl 4 rfl) ?_
  refine lv_iload hx hb dX4_sendAll_21 (lv_at hl 5 rfl) ?_
  refine goV (ws := (wMc o k r0 r1 r2 c0 c1 c2 c3 an c5 c6 c7 f g fl n d)) (ws' := (wMc o k r0 r1 r2 c0 c1 c2 c3 an c5 c6 c7 (sndN zk (nI c) (c1 c) zt zv f n 1) g fl (n + 1) d)) (qFit_all rfl) hP hD hS hA (va_runV (rm := ({ frames := 0, cells := 0, slots := 0, locals := 0 } : Room)) (As := [.int zk, .int (nI c), .int (nI 0), .int (c1 c), .int zt, .int zv]) (rest := []) ⟨hx, hb, hml, hown, hts⟩ (MetV.at (k_X4_send l dC dI o k r0 r1 r2 c0 c1 c2 c3 an c5 c6 c7 f g fl n d (by omega) zk (nI c) (nI 0) (c1 c) zt zv) s.heap.size) (cwV 6 hts gX4_sendAll_X4_send rfl rfl rfl (by decide +kernel) ⟨Nat.le_of_ble_eq_true rfl, Nat.le_of_ble_eq_true rfl⟩) (preWV hK hP hD (va_recv hK hP (ci := 4) (q0 := 0) rfl rfl)) rfl rfl hl.1 rfl (lv_room (Nat.le_of_ble_eq_true rfl)) dX4_sendAll_23 ⟨Nat.le_of_ble_eq_true rfl, Nat.le_of_ble_eq_true rfl⟩) (fun H locs hP hD hS => ?_)
  refine lv_iinc (v := nI 1) (lv' := [(5, .int (nI 1)), (0, .ref (o 0)), (1, .int zk), (2, .int (nI c)), (3, .int zt), (4, .int zv)]) hx hb dX4_sendAll_26 hl (k := 0) rfl (nI_add _ 1) (by decide) rfl (fun ls hl => ?_)
  refine lv_goto (tgt := 3) hx hb dX4_sendAll_29 (by decide) ?_
  refine lv_iload hx hb dX4_sendAll_3 (lv_at hl 0 rfl) ?_
  refine lv_iconst (v := nI 5) hx hb dX4_sendAll_5 (by decide) ?_
  refine lv_icmp_ge (tgt := 32) hx hb dX4_sendAll_6 (by decide) (fun c9 => absurd c9 (by decide +kernel)) (fun _ => ?_)
  refine lv_aload_n hx hb dX4_sendAll_9 rfl (lv_at hl 1 rfl) ?_
  refine lv_iload_n hx hb dX4_sendAll_10 rfl (lv_at hl 2 rfl) ?_
  refine lv_iload_n hx hb dX4_sendAll_11 rfl (lv_at hl 3 rfl) ?_
  refine lv_iload hx hb dX4_sendAll_12 (lv_at hl 0 rfl) ?_
  refine lv_aload_n hx hb dX4_sendAll_14 rfl (lv_at hl 1 rfl) ?_
  refine va_get (D := (dC, dI)) (ci := 4) (v := .ref (o 5)) (C := RX4) (T := TX4) (N := 16) hx hb hts inX4_sendAll_X4 hown hK hP (0) rfl rfl 5 (by decide) (hts _ lkX4_sendAll_23) (fun _ h9 => h9) rfl dX4_sendAll_15 ?_
  refine lv_iload_n hx hb dX4_sendAll_18 rfl (lv_at hl 3 rfl) ?_
  refine q_iald hx hb hK hP (5) 4 (j := c) rfl rfl lt_c (Nat.le_of_ble_eq_true rfl) dX4_sendAll_19 ?_
  refine lv_iload_n hx hb dX4_sendAll_20 rfl (lv_at hl 4 rfl) ?_
  refine lv_iload hx hb dX4_sendAll_21 (lv_at hl 5 rfl) ?_
  refine goV (ws := (wMc o k r0 r1 r2 c0 c1 c2 c3 an c5 c6 c7 (sndN zk (nI c) (c1 c) zt zv f n 1) g fl (n + 1) d)) (ws' := (wMc o k r0 r1 r2 c0 c1 c2 c3 an c5 c6 c7 (sndN zk (nI c) (c1 c) zt zv f n 2) g fl (n + 2) d)) (qFit_all rfl) hP hD hS hA (va_runV (rm := ({ frames := 0, cells := 0, slots := 0, locals := 0 } : Room)) (As := [.int zk, .int (nI c), .int (nI 1), .int (c1 c), .int zt, .int zv]) (rest := []) ⟨hx, hb, hml, hown, hts⟩ (MetV.at (k_X4_send l dC dI o k r0 r1 r2 c0 c1 c2 c3 an c5 c6 c7 (sndN zk (nI c) (c1 c) zt zv f n 1) g fl (n + 1) d (by omega) zk (nI c) (nI 1) (c1 c) zt zv) H.size) (cwV 6 hts gX4_sendAll_X4_send rfl rfl rfl (by decide +kernel) ⟨Nat.le_of_ble_eq_true rfl, Nat.le_of_ble_eq_true rfl⟩) (preWV hK hP hD (va_recv hK hP (ci := 4) (q0 := 0) rfl rfl)) rfl rfl hl.1 rfl (lv_room (Nat.le_of_ble_eq_true rfl)) dX4_sendAll_23 ⟨Nat.le_of_ble_eq_true rfl, Nat.le_of_ble_eq_true rfl⟩) (fun H locs hP hD hS => ?_)
  refine lv_iinc (v := nI 2) (lv' := [(5, .int (nI 2)), (0, .ref (o 0)), (1, .int zk), (2, .int (nI c)), (3, .int zt), (4, .int zv)]) hx hb dX4_sendAll_26 hl (k := 0) rfl (nI_add _ 1) (by decide) rfl (fun ls hl => ?_)
  refine lv_goto (tgt := 3) hx hb dX4_sendAll_29 (by decide) ?_
  refine lv_iload hx hb dX4_sendAll_3 (lv_at hl 0 rfl) ?_
  refine lv_iconst (v := nI 5) hx hb dX4_sendAll_5 (by decide) ?_
  refine lv_icmp_ge (tgt := 32) hx hb dX4_sendAll_6 (by decide) (fun c9 => absurd c9 (by decide +kernel)) (fun _ => ?_)
  refine lv_aload_n hx hb dX4_sendAll_9 rfl (lv_at hl 1 rfl) ?_
  refine lv_iload_n hx hb dX4_sendAll_10 rfl (lv_at hl 2 rfl) ?_
  refine lv_iload_n hx hb dX4_sendAll_11 rfl (lv_at hl 3 rfl) ?_
  refine lv_iload hx hb dX4_sendAll_12 (lv_at hl 0 rfl) ?_
  refine lv_aload_n hx hb dX4_sendAll_14 rfl (lv_at hl 1 rfl) ?_
  refine va_get (D := (dC, dI)) (ci := 4) (v := .ref (o 5)) (C := RX4) (T := TX4) (N := 16) hx hb hts inX4_sendAll_X4 hown hK hP (0) rfl rfl 5 (by decide) (hts _ lkX4_sendAll_23) (fun _ h9 => h9) rfl dX4_sendAll_15 ?_
  refine lv_iload_n hx hb dX4_sendAll_18 rfl (lv_at hl 3 rfl) ?_
  refine q_iald hx hb hK hP (5) 4 (j := c) rfl rfl lt_c (Nat.le_of_ble_eq_true rfl) dX4_sendAll_19 ?_
  refine lv_iload_n hx hb dX4_sendAll_20 rfl (lv_at hl 4 rfl) ?_
  refine lv_iload hx hb dX4_sendAll_21 (lv_at hl 5 rfl) ?_
  refine goV (ws := (wMc o k r0 r1 r2 c0 c1 c2 c3 an c5 c6 c7 (sndN zk (nI c) (c1 c) zt zv f n 2) g fl (n + 2) d)) (ws' := (wMc o k r0 r1 r2 c0 c1 c2 c3 an c5 c6 c7 (sndN zk (nI c) (c1 c) zt zv f n 3) g fl (n + 3) d)) (qFit_all rfl) hP hD hS hA (va_runV (rm := ({ frames := 0, cells := 0, slots := 0, locals := 0 } : Room)) (As := [.int zk, .int (nI c), .int (nI 2), .int (c1 c), .int zt, .int zv]) (rest := []) ⟨hx, hb, hml, hown, hts⟩ (MetV.at (k_X4_send l dC dI o k r0 r1 r2 c0 c1 c2 c3 an c5 c6 c7 (sndN zk (nI c) (c1 c) zt zv f n 2) g fl (n + 2) d (by omega) zk (nI c) (nI 2) (c1 c) zt zv) H.size) (cwV 6 hts gX4_sendAll_X4_send rfl rfl rfl (by decide +kernel) ⟨Nat.le_of_ble_eq_true rfl, Nat.le_of_ble_eq_true rfl⟩) (preWV hK hP hD (va_recv hK hP (ci := 4) (q0 := 0) rfl rfl)) rfl rfl hl.1 rfl (lv_room (Nat.le_of_ble_eq_true rfl)) dX4_sendAll_23 ⟨Nat.le_of_ble_eq_true rfl, Nat.le_of_ble_eq_true rfl⟩) (fun H locs hP hD hS => ?_)
  refine lv_iinc (v := nI 3) (lv' := [(5, .int (nI 3)), (0, .ref (o 0)), (1, .int zk), (2, .int (nI c)), (3, .int zt), (4, .int zv)]) hx hb dX4_sendAll_26 hl (k := 0) rfl (nI_add _ 1) (by decide) rfl (fun ls hl => ?_)
  refine lv_goto (tgt := 3) hx hb dX4_sendAll_29 (by decide) ?_
  refine lv_iload hx hb dX4_sendAll_3 (lv_at hl 0 rfl) ?_
  refine lv_iconst (v := nI 5) hx hb dX4_sendAll_5 (by decide) ?_
  refine lv_icmp_ge (tgt := 32) hx hb dX4_sendAll_6 (by decide) (fun c9 => absurd c9 (by decide +kernel)) (fun _ => ?_)
  refine lv_aload_n hx hb dX4_sendAll_9 rfl (lv_at hl 1 rfl) ?_
  refine lv_iload_n hx hb dX4_sendAll_10 rfl (lv_at hl 2 rfl) ?_
  refine lv_iload_n hx hb dX4_sendAll_11 rfl (lv_at hl 3 rfl) ?_
  refine lv_iload hx hb dX4_sendAll_12 (lv_at hl 0 rfl) ?_
  refine lv_aload_n hx hb dX4_sendAll_14 rfl (lv_at hl 1 rfl) ?_
  refine va_get (D := (dC, dI)) (ci := 4) (v := .ref (o 5)) (C := RX4) (T := TX4) (N := 16) hx hb hts inX4_sendAll_X4 hown hK hP (0) rfl rfl 5 (by decide) (hts _ lkX4_sendAll_23) (fun _ h9 => h9) rfl dX4_sendAll_15 ?_
  refine lv_iload_n hx hb dX4_sendAll_18 rfl (lv_at hl 3 rfl) ?_
  refine q_iald hx hb hK hP (5) 4 (j := c) rfl rfl lt_c (Nat.le_of_ble_eq_true rfl) dX4_sendAll_19 ?_
  refine lv_iload_n hx hb dX4_sendAll_20 rfl (lv_at hl 4 rfl) ?_
  refine lv_iload hx hb dX4_sendAll_21 (lv_at hl 5 rfl) ?_
  refine goV (ws := (wMc o k r0 r1 r2 c0 c1 c2 c3 an c5 c6 c7 (sndN zk (nI c) (c1 c) zt zv f n 3) g fl (n + 3) d)) (ws' := (wMc o k r0 r1 r2 c0 c1 c2 c3 an c5 c6 c7 (sndN zk (nI c) (c1 c) zt zv f n 4) g fl (n + 4) d)) (qFit_all rfl) hP hD hS hA (va_runV (rm := ({ frames := 0, cells := 0, slots := 0, locals := 0 } : Room)) (As := [.int zk, .int (nI c), .int (nI 3), .int (c1 c), .int zt, .int zv]) (rest := []) ⟨hx, hb, hml, hown, hts⟩ (MetV.at (k_X4_send l dC dI o k r0 r1 r2 c0 c1 c2 c3 an c5 c6 c7 (sndN zk (nI c) (c1 c) zt zv f n 3) g fl (n + 3) d (by omega) zk (nI c) (nI 3) (c1 c) zt zv) H.size) (cwV 6 hts gX4_sendAll_X4_send rfl rfl rfl (by decide +kernel) ⟨Nat.le_of_ble_eq_true rfl, Nat.le_of_ble_eq_true rfl⟩) (preWV hK hP hD (va_recv hK hP (ci := 4) (q0 := 0) rfl rfl)) rfl rfl hl.1 rfl (lv_room (Nat.le_of_ble_eq_true rfl)) dX4_sendAll_23 ⟨Nat.le_of_ble_eq_true rfl, Nat.le_of_ble_eq_true rfl⟩) (fun H locs hP hD hS => ?_)
  refine lv_iinc (v := nI 4) (lv' := [(5, .int (nI 4)), (0, .ref (o 0)), (1, .int zk), (2, .int (nI c)), (3, .int zt), (4, .int zv)]) hx hb dX4_sendAll_26 hl (k := 0) rfl (nI_add _ 1) (by decide) rfl (fun ls hl => ?_)
  refine lv_goto (tgt := 3) hx hb dX4_sendAll_29 (by decide) ?_
  refine lv_iload hx hb dX4_sendAll_3 (lv_at hl 0 rfl) ?_
  refine lv_iconst (v := nI 5) hx hb dX4_sendAll_5 (by decide) ?_
  refine lv_icmp_ge (tgt := 32) hx hb dX4_sendAll_6 (by decide) (fun c9 => absurd c9 (by decide +kernel)) (fun _ => ?_)
  refine lv_aload_n hx hb dX4_sendAll_9 rfl (lv_at hl 1 rfl) ?_
  refine lv_iload_n hx hb dX4_sendAll_10 rfl (lv_at hl 2 rfl) ?_
  refine lv_iload_n hx hb dX4_sendAll_11 rfl (lv_at hl 3 rfl) ?_
  refine lv_iload hx hb dX4_sendAll_12 (lv_at hl 0 rfl) ?_
  refine lv_aload_n hx hb dX4_sendAll_14 rfl (lv_at hl 1 rfl) ?_
  refine va_get (D := (dC, dI)) (ci := 4) (v := .ref (o 5)) (C := RX4) (T := TX4) (N := 16) hx hb hts inX4_sendAll_X4 hown hK hP (0) rfl rfl 5 (by decide) (hts _ lkX4_sendAll_23) (fun _ h9 => h9) rfl dX4_sendAll_15 ?_
  refine lv_iload_n hx hb dX4_sendAll_18 rfl (lv_at hl 3 rfl) ?_
  refine q_iald hx hb hK hP (5) 4 (j := c) rfl rfl lt_c (Nat.le_of_ble_eq_true rfl) dX4_sendAll_19 ?_
  refine lv_iload_n hx hb dX4_sendAll_20 rfl (lv_at hl 4 rfl) ?_
  refine lv_iload hx hb dX4_sendAll_21 (lv_at hl 5 rfl) ?_
  refine goV (ws := (wMc o k r0 r1 r2 c0 c1 c2 c3 an c5 c6 c7 (sndN zk (nI c) (c1 c) zt zv f n 4) g fl (n + 4) d)) (ws' := (wMc o k r0 r1 r2 c0 c1 c2 c3 an c5 c6 c7 (sndN zk (nI c) (c1 c) zt zv f n 5) g fl (n + 5) d)) (qFit_all rfl) hP hD hS hA (va_runV (rm := ({ frames := 0, cells := 0, slots := 0, locals := 0 } : Room)) (As := [.int zk, .int (nI c), .int (nI 4), .int (c1 c), .int zt, .int zv]) (rest := []) ⟨hx, hb, hml, hown, hts⟩ (MetV.at (k_X4_send l dC dI o k r0 r1 r2 c0 c1 c2 c3 an c5 c6 c7 (sndN zk (nI c) (c1 c) zt zv f n 4) g fl (n + 4) d (by omega) zk (nI c) (nI 4) (c1 c) zt zv) H.size) (cwV 6 hts gX4_sendAll_X4_send rfl rfl rfl (by decide +kernel) ⟨Nat.le_of_ble_eq_true rfl, Nat.le_of_ble_eq_true rfl⟩) (preWV hK hP hD (va_recv hK hP (ci := 4) (q0 := 0) rfl rfl)) rfl rfl hl.1 rfl (lv_room (Nat.le_of_ble_eq_true rfl)) dX4_sendAll_23 ⟨Nat.le_of_ble_eq_true rfl, Nat.le_of_ble_eq_true rfl⟩) (fun H locs hP hD hS => ?_)
  refine lv_iinc (v := nI 5) (lv' := [(5, .int (nI 5)), (0, .ref (o 0)), (1, .int zk), (2, .int (nI c)), (3, .int zt), (4, .int zv)]) hx hb dX4_sendAll_26 hl (k := 0) rfl (nI_add _ 1) (by decide) rfl (fun ls hl => ?_)
  refine lv_goto (tgt := 3) hx hb dX4_sendAll_29 (by decide) ?_
  refine lv_iload hx hb dX4_sendAll_3 (lv_at hl 0 rfl) ?_
  refine lv_iconst (v := nI 5) hx hb dX4_sendAll_5 (by decide) ?_
  refine lv_icmp_ge (tgt := 32) hx hb dX4_sendAll_6 (by decide) (fun _ => ?_) (fun c9 => absurd (by decide +kernel) c9)
  exact retV hx hb hr hlk dX4_sendAll_32 hS (hP)
theorem lkX4_drop_50 : Cond.fieldLink RX4 50 "QuorumRegisterModel" "count" "I" ∈ wsX4_drop := by decide +kernel
theorem inX4_drop_X4 : ∀ w ∈ wsX40, w ∈ wsX4_drop := by decide +kernel
theorem lkX4_drop_44 : Cond.fieldLink RX4 44 "QuorumRegisterModel" "pool" "[I" ∈ wsX4_drop := by decide +kernel
set_option maxHeartbeats 4000000 in
set_option maxRecDepth 100000 in
/-- drop(i) -/
theorem k_X4_drop (l : Launch) (dC : Nat → ClassId) (dI : Nat → Nat → Nat) (o : Nat → Nat) (k : Nat → ClassId) (r0 r1 r2 c0 c1 c2 c3 an c5 c6 c7 f g : Nat → Int32) (fl n d : Nat) (hn : n ≤ 100) (i : Nat) (lt_i : i < n) : MetV l yX4_drop wsX4_drop ({ frames := 0, cells := 0, slots := 0, locals := 0 } : Room) (dC, dI) vwCl (wMc o k r0 r1 r2 c0 c1 c2 c3 an c5 c6 c7 f g fl n d) (tyM k) [.ref (o 0), .int (nI i)] (wMc o k r0 r1 r2 c0 c1 c2 c3 an c5 c6 c7 (drp f n i) g fl (n - 1) d) := by
  refine MetV.of (cc := cX4_drop) (maxL := 3) (ret := none) (by decide) rfl (Nat.le_of_ble_eq_true rfl) rfl ?_
  intro p e s m below meth cd ls A hx hb hr hlk hml hown hts hK hP hD hS hA hl
  have hl : lv_has ls 3 [(0, .ref (o 0)), (1, .int (nI i))] := hl
  refine lv_aload_n hx hb dX4_drop_0 rfl (lv_at hl 0 rfl) ?_
  refine lv_dup hx hb dX4_drop_1 rfl ?_
  refine va_get (D := (dC, dI)) (ci := 4) (v := .int (nI n)) (C := RX4) (T := TX4) (N := 16) hx hb hts inX4_drop_X4 hown hK hP (0) rfl rfl 13 (by decide) (hts _ lkX4_drop_50) (fun _ h9 => h9) rfl dX4_drop_2 ?_
  refine lv_iconst (v := nI 1) hx hb dX4_drop_5 (by decide) ?_
  refine lv_isub hx hb dX4_drop_6 ?_
  refine qtop (y := nI (n - 1)) (pk_sub (by omega)) ?_
  refine q_put (D := (dC, dI)) (ci := 4) (v := .int (nI (n - 1))) (ty := .int) (C := RX4) (T := TX4) (N := 16) (ws' := (wMc o k r0 r1 r2 c0 c1 c2 c3 an c5 c6 c7 f g fl (n - 1) d)) hx hb hts inX4_drop_X4 tyX4 tyX4_ok nmX4 hown hK hP hD hS (0) rfl rfl 13 (by decide) (hts _ lkX4_drop_50) (fun _ h9 => h9) rfl (by decide +kernel) rfl rfl (Nat.le_of_ble_eq_true rfl) rfl dX4_drop_7 (fun H locs hP hD hS => ?_)
  refine lv_bipush (v := nI 6) hx hb dX4_drop_10 (by decide) ?_
  refine lv_iload_n hx hb dX4_drop_12 rfl (lv_at hl 1 rfl) ?_
  refine lv_imul hx hb dX4_drop_13 ?_
  refine qtop (y := nI (i * 6)) (mulc _ _) ?_
  refine lv_istore_n (lv' := [(2, .int (nI (i * 6))), (0, .ref (o 0)), (1, .int (nI i))]) hx hb dX4_drop_14 rfl hl (by decide) rfl (fun ls hl => ?_)
  have loop : ∀ u t : Nat, t + u = n * 6 - (i + 1) * 6 → ∀ (ls : Array Slot) (H : Heap) (locs : List Loc), va_P (dC, dI) vwCl (wMc o k r0 r1 r2 c0 c1 c2 c3 an c5 c6 c7 (va_cpy f f ((i + 1) * 6) (i * 6) t) g fl (n - 1) d) H → va_D A (wMc o k r0 r1 r2 c0 c1 c2 c3 an c5 c6 c7 (va_cpy f f ((i + 1) * 6) (i * 6) t) g fl (n - 1) d) → va_S A s.heap H locs → lv_has ls 3 [(0, .ref (o 0)), (1, .int (nI i)), (2, .int (nI (i * 6 + t)))] → W p l e ({ frames := 0, cells := 0, slots := 0, locals := 0 } : Room) s m [Value.ref (o 0), Value.int (nI i)].toArray below meth cd H locs 0 0 (MQ below (qQv (dC, dI) vwCl (wMc o k r0 r1 r2 c0 c1 c2 c3 an c5 c6 c7 (drp f n i) g fl (n - 1) d) A) [Value.ref (o 0), Value.int (nI i)].toArray s 0 0 A) (F0 m 15 ls []) := by
    intro u
    induction u with
    | zero =>
      intro t ht ls H locs hP hD hS hl
      have ht : t = n * 6 - (i + 1) * 6 := by omega
      refine lv_iload_n hx hb dX4_drop_15 rfl (lv_at hl 2 rfl) ?_
      refine lv_bipush (v := nI 6) hx hb dX4_drop_16 (by decide) ?_
      refine lv_aload_n hx hb dX4_drop_18 rfl (lv_at hl 0 rfl) ?_
      refine va_get (D := (dC, dI)) (ci := 4) (v := .int (nI (n - 1))) (C := RX4) (T := TX4) (N := 16) hx hb hts inX4_drop_X4 hown hK hP (0) rfl rfl 13 (by decide) (hts _ lkX4_drop_50) (fun _ h9 => h9) rfl dX4_drop_19 ?_
      refine lv_imul hx hb dX4_drop_22 ?_
      refine qtop (y := nI ((n - 1) * 6)) (mulc _ _) ?_
      refine lv_icmp_ge (tgt := 47) hx hb dX4_drop_23 (by decide) (fun c_23 => ?_) (fun c_23 => ?_)
      · exact retV hx hb hr hlk dX4_drop_47 hS (by rw [ht] at hP; exact hP)
      · exact absurd (nI_le (by omega) (by omega)) c_23
    | succ u ih =>
      intro t ht ls H locs hP hD hS hl
      refine lv_iload_n hx hb dX4_drop_15 rfl (lv_at hl 2 rfl) ?_
      refine lv_bipush (v := nI 6) hx hb dX4_drop_16 (by decide) ?_
      refine lv_aload_n hx hb dX4_drop_18 rfl (lv_at hl 0 rfl) ?_
      refine va_get (D := (dC, dI)) (ci := 4) (v := .int (nI (n - 1))) (C := RX4) (T := TX4) (N := 16) hx hb hts inX4_drop_X4 hown hK hP (0) rfl rfl 13 (by decide) (hts _ lkX4_drop_50) (fun _ h9 => h9) rfl dX4_drop_19 ?_
      refine lv_imul hx hb dX4_drop_22 ?_
      refine qtop (y := nI ((n - 1) * 6)) (mulc _ _) ?_
      refine lv_icmp_ge (tgt := 47) hx hb dX4_drop_23 (by decide) (fun c_23 => ?_) (fun c_23 => ?_)
      · exact absurd c_23 (nI_ge (by omega) (by omega))
      · refine lv_aload_n hx hb dX4_drop_26 rfl (lv_at hl 0 rfl) ?_
        refine va_get (D := (dC, dI)) (ci := 4) (v := .ref (o 12)) (C := RX4) (T := TX4) (N := 16) hx hb hts inX4_drop_X4 hown hK hP (0) rfl rfl 12 (by decide) (hts _ lkX4_drop_44) (fun _ h9 => h9) rfl dX4_drop_27 ?_
        refine lv_iload_n hx hb dX4_drop_30 rfl (lv_at hl 2 rfl) ?_
        refine lv_aload_n hx hb dX4_drop_31 rfl (lv_at hl 0 rfl) ?_
        refine va_get (D := (dC, dI)) (ci := 4) (v := .ref (o 12)) (C := RX4) (T := TX4) (N := 16) hx hb hts inX4_drop_X4 hown hK hP (0) rfl rfl 12 (by decide) (hts _ lkX4_drop_44) (fun _ h9 => h9) rfl dX4_drop_32 ?_
        refine lv_iload_n hx hb dX4_drop_35 rfl (lv_at hl 2 rfl) ?_
        refine lv_bipush (v := nI 6) hx hb dX4_drop_36 (by decide) ?_
        refine lv_iadd hx hb dX4_drop_38 ?_
        refine qtop (y := nI ((i * 6 + t) + 6)) (nI_add _ _) ?_
        refine q_iald hx hb hK hP (12) 11 (j := (i * 6 + t) + 6) rfl rfl (by omega) (Nat.le_of_ble_eq_true rfl) dX4_drop_39 ?_
        refine q_iast (ws' := (wMc o k r0 r1 r2 c0 c1 c2 c3 an c5 c6 c7 (upd (va_cpy f f ((i + 1) * 6) (i * 6) t) (i * 6 + t) ((va_cpy f f ((i + 1) * 6) (i * 6) t) ((i * 6 + t) + 6))) g fl (n - 1) d)) hx hb hK hP hD hS (12) 11 (j := i * 6 + t) rfl rfl (by omega) (Nat.le_of_ble_eq_true rfl) rfl dX4_drop_40 (fun H locs hP hD hS => ?_)
        refine lv_iinc (v := nI ((i * 6 + t) + 1)) (lv' := [(2, .int (nI ((i * 6 + t) + 1))), (0, .ref (o 0)), (1, .int (nI i))]) hx hb dX4_drop_41 hl (k := 2) rfl (nI_add _ 1) (by decide) rfl (fun ls hl => ?_)
        refine lv_goto (tgt := 15) hx hb dX4_drop_44 (by decide) ?_
        rw [cpy_step] at hP hD
        exact ih (t + 1) (by omega) ls H locs hP hD hS (lv_sub hl [1, 2, 0] rfl)
  refine loop (n * 6 - (i + 1) * 6) 0 (by omega) ls H locs ?_ ?_ hS (lv_sub hl [1, 2, 0] rfl)
  · rw [cpy_0]; exact hP
  · rw [cpy_0]; exact hD
set_option maxHeartbeats 4000000 in
set_option maxRecDepth 100000 in
/-- bits(set) -/
theorem k_X4_bits (l : Launch) (dC : Nat → ClassId) (dI : Nat → Nat → Nat) (x : Int32) : MetS l yX4_bits wsX4_bits ({ frames := 0, cells := 0, slots := 0, locals := 0 } : Room) (dC, dI) vwCl ([]) ([]) [.int x] (bitM x) := by
  refine MetS.of (cc := cX4_bits) (maxL := 3) (ret := (some .int)) (by decide) rfl (Nat.le_of_ble_eq_true rfl) rfl ?_
  intro p e s m below meth cd ls hx hb hr hlk hml hown hts hK hP hl
  have hl : lv_has ls 3 [(0, .int x)] := hl
  refine lv_iconst (v := nI 0) hx hb dX4_bits_0 (by decide) ?_
  refine lv_istore_n (lv' := [(1, .int (nI 0)), (0, .int x)]) hx hb dX4_bits_1 rfl hl (by decide) rfl (fun ls hl => ?_)
  refine lv_iconst (v := nI 0) hx hb dX4_bits_2 (by decide) ?_
  refine lv_istore_n (lv' := [(2, .int (nI 0)), (1, .int (nI 0)), (0, .int x)]) hx hb dX4_bits_3 rfl hl (by decide) rfl (fun ls hl => ?_)
  refine lv_iload_n hx hb dX4_bits_4 rfl (lv_at hl 0 rfl) ?_
  refine lv_iconst (v := nI 5) hx hb dX4_bits_5 (by decide) ?_
  refine lv_icmp_ge (tgt := 23) hx hb dX4_bits_6 (by decide) (fun c9 => absurd c9 (by decide +kernel)) (fun _ => ?_)
  refine lv_iload_n hx hb dX4_bits_9 rfl (lv_at hl 1 rfl) ?_
  refine lv_iload_n hx hb dX4_bits_10 rfl (lv_at hl 2 rfl) ?_
  refine lv_iload_n hx hb dX4_bits_11 rfl (lv_at hl 0 rfl) ?_
  refine lv_ishr hx hb dX4_bits_12 ?_
  refine lv_iconst (v := nI 1) hx hb dX4_bits_13 (by decide) ?_
  refine lv_iand hx hb dX4_bits_14 ?_
  refine lv_iadd hx hb dX4_bits_15 ?_
  refine lv_istore_n (lv' := [(1, .int ((nI 0) + ((x >>> ((nI 0) &&& 31)) &&& (nI 1)))), (2, .int (nI 0)), (0, .int x)]) hx hb dX4_bits_16 rfl hl (by decide) rfl (fun ls hl => ?_)
  refine lv_iinc (v := nI 1) (lv' := [(2, .int (nI 1)), (1, .int ((nI 0) + ((x >>> ((nI 0) &&& 31)) &&& (nI 1)))), (0, .int x)]) hx hb dX4_bits_17 hl (k := 1) rfl (nI_add _ 1) (by decide) rfl (fun ls hl => ?_)
  refine lv_goto (tgt := 4) hx hb dX4_bits_20 (by decide) ?_
  refine lv_iload_n hx hb dX4_bits_4 rfl (lv_at hl 0 rfl) ?_
  refine lv_iconst (v := nI 5) hx hb dX4_bits_5 (by decide) ?_
  refine lv_icmp_ge (tgt := 23) hx hb dX4_bits_6 (by decide) (fun c9 => absurd c9 (by decide +kernel)) (fun _ => ?_)
  refine lv_iload_n hx hb dX4_bits_9 rfl (lv_at hl 1 rfl) ?_
  refine lv_iload_n hx hb dX4_bits_10 rfl (lv_at hl 2 rfl) ?_
  refine lv_iload_n hx hb dX4_bits_11 rfl (lv_at hl 0 rfl) ?_
  refine lv_ishr hx hb dX4_bits_12 ?_
  refine lv_iconst (v := nI 1) hx hb dX4_bits_13 (by decide) ?_
  refine lv_iand hx hb dX4_bits_14 ?_
  refine lv_iadd hx hb dX4_bits_15 ?_
  refine lv_istore_n (lv' := [(1, .int (((nI 0) + ((x >>> ((nI 0) &&& 31)) &&& (nI 1))) + ((x >>> ((nI 1) &&& 31)) &&& (nI 1)))), (2, .int (nI 1)), (0, .int x)]) hx hb dX4_bits_16 rfl hl (by decide) rfl (fun ls hl => ?_)
  refine lv_iinc (v := nI 2) (lv' := [(2, .int (nI 2)), (1, .int (((nI 0) + ((x >>> ((nI 0) &&& 31)) &&& (nI 1))) + ((x >>> ((nI 1) &&& 31)) &&& (nI 1)))), (0, .int x)]) hx hb dX4_bits_17 hl (k := 1) rfl (nI_add _ 1) (by decide) rfl (fun ls hl => ?_)
  refine lv_goto (tgt := 4) hx hb dX4_bits_20 (by decide) ?_
  refine lv_iload_n hx hb dX4_bits_4 rfl (lv_at hl 0 rfl) ?_
  refine lv_iconst (v := nI 5) hx hb dX4_bits_5 (by decide) ?_
  refine lv_icmp_ge (tgt := 23) hx hb dX4_bits_6 (by decide) (fun c9 => absurd c9 (by decide +kernel)) (fun _ => ?_)
  refine lv_iload_n hx hb dX4_bits_9 rfl (lv_at hl 1 rfl) ?_
  refine lv_iload_n hx hb dX4_bits_10 rfl (lv_at hl 2 rfl) ?_
  refine lv_iload_n hx hb dX4_bits_11 rfl (lv_at hl 0 rfl) ?_
  refine lv_ishr hx hb dX4_bits_12 ?_
  refine lv_iconst (v := nI 1) hx hb dX4_bits_13 (by decide) ?_
  refine lv_iand hx hb dX4_bits_14 ?_
  refine lv_iadd hx hb dX4_bits_15 ?_
  refine lv_istore_n (lv' := [(1, .int ((((nI 0) + ((x >>> ((nI 0) &&& 31)) &&& (nI 1))) + ((x >>> ((nI 1) &&& 31)) &&& (nI 1))) + ((x >>> ((nI 2) &&& 31)) &&& (nI 1)))), (2, .int (nI 2)), (0, .int x)]) hx hb dX4_bits_16 rfl hl (by decide) rfl (fun ls hl => ?_)
  refine lv_iinc (v := nI 3) (lv' := [(2, .int (nI 3)), (1, .int ((((nI 0) + ((x >>> ((nI 0) &&& 31)) &&& (nI 1))) + ((x >>> ((nI 1) &&& 31)) &&& (nI 1))) + ((x >>> ((nI 2) &&& 31)) &&& (nI 1)))), (0, .int x)]) hx hb dX4_bits_17 hl (k := 1) rfl (nI_add _ 1) (by decide) rfl (fun ls hl => ?_)
  refine lv_goto (tgt := 4) hx hb dX4_bits_20 (by decide) ?_
  refine lv_iload_n hx hb dX4_bits_4 rfl (lv_at hl 0 rfl) ?_
  refine lv_iconst (v := nI 5) hx hb dX4_bits_5 (by decide) ?_
  refine lv_icmp_ge (tgt := 23) hx hb dX4_bits_6 (by decide) (fun c9 => absurd c9 (by decide +kernel)) (fun _ => ?_)
  refine lv_iload_n hx hb dX4_bits_9 rfl (lv_at hl 1 rfl) ?_
  refine lv_iload_n hx hb dX4_bits_10 rfl (lv_at hl 2 rfl) ?_
  refine lv_iload_n hx hb dX4_bits_11 rfl (lv_at hl 0 rfl) ?_
  refine lv_ishr hx hb dX4_bits_12 ?_
  refine lv_iconst (v := nI 1) hx hb dX4_bits_13 (by decide) ?_
  refine lv_iand hx hb dX4_bits_14 ?_
  refine lv_iadd hx hb dX4_bits_15 ?_
  refine lv_istore_n (lv' := [(1, .int (((((nI 0) + ((x >>> ((nI 0) &&& 31)) &&& (nI 1))) + ((x >>> ((nI 1) &&& 31)) &&& (nI 1))) + ((x >>> ((nI 2) &&& 31)) &&& (nI 1))) + ((x >>> ((nI 3) &&& 31)) &&& (nI 1)))), (2, .int (nI 3)), (0, .int x)]) hx hb dX4_bits_16 rfl hl (by decide) rfl (fun ls hl => ?_)
  refine lv_iinc (v := nI 4) (lv' := [(2, .int (nI 4)), (1, .int (((((nI 0) + ((x >>> ((nI 0) &&& 31)) &&& (nI 1))) + ((x >>> ((nI 1) &&& 31)) &&& (nI 1))) + ((x >>> ((nI 2) &&& 31)) &&& (nI 1))) + ((x >>> ((nI 3) &&& 31)) &&& (nI 1)))), (0, .int x)]) hx hb dX4_bits_17 hl (k := 1) rfl (nI_add _ 1) (by decide) rfl (fun ls hl => ?_)
  refine lv_goto (tgt := 4) hx hb dX4_bits_20 (by decide) ?_
  refine lv_iload_n hx hb dX4_bits_4 rfl (lv_at hl 0 rfl) ?_
  refine lv_iconst (v := nI 5) hx hb dX4_bits_5 (by decide) ?_
  refine lv_icmp_ge (tgt := 23) hx hb dX4_bits_6 (by decide) (fun c9 => absurd c9 (by decide +kernel)) (fun _ => ?_)
  refine lv_iload_n hx hb dX4_bits_9 rfl (lv_at hl 1 rfl) ?_
  refine lv_iload_n hx hb dX4_bits_10 rfl (lv_at hl 2 rfl) ?_
  refine lv_iload_n hx hb dX4_bits_11 rfl (lv_at hl 0 rfl) ?_
  refine lv_ishr hx hb dX4_bits_12 ?_
  refine lv_iconst (v := nI 1) hx hb dX4_bits_13 (by decide) ?_
  refine lv_iand hx hb dX4_bits_14 ?_
  refine lv_iadd hx hb dX4_bits_15 ?_
  refine lv_istore_n (lv' := [(1, .int ((((((nI 0) + ((x >>> ((nI 0) &&& 31)) &&& (nI 1))) + ((x >>> ((nI 1) &&& 31)) &&& (nI 1))) + ((x >>> ((nI 2) &&& 31)) &&& (nI 1))) + ((x >>> ((nI 3) &&& 31)) &&& (nI 1))) + ((x >>> ((nI 4) &&& 31)) &&& (nI 1)))), (2, .int (nI 4)), (0, .int x)]) hx hb dX4_bits_16 rfl hl (by decide) rfl (fun ls hl => ?_)
  refine lv_iinc (v := nI 5) (lv' := [(2, .int (nI 5)), (1, .int ((((((nI 0) + ((x >>> ((nI 0) &&& 31)) &&& (nI 1))) + ((x >>> ((nI 1) &&& 31)) &&& (nI 1))) + ((x >>> ((nI 2) &&& 31)) &&& (nI 1))) + ((x >>> ((nI 3) &&& 31)) &&& (nI 1))) + ((x >>> ((nI 4) &&& 31)) &&& (nI 1)))), (0, .int x)]) hx hb dX4_bits_17 hl (k := 1) rfl (nI_add _ 1) (by decide) rfl (fun ls hl => ?_)
  refine lv_goto (tgt := 4) hx hb dX4_bits_20 (by decide) ?_
  refine lv_iload_n hx hb dX4_bits_4 rfl (lv_at hl 0 rfl) ?_
  refine lv_iconst (v := nI 5) hx hb dX4_bits_5 (by decide) ?_
  refine lv_icmp_ge (tgt := 23) hx hb dX4_bits_6 (by decide) (fun _ => ?_) (fun c9 => absurd (by decide +kernel) c9)
  refine lv_iload_n hx hb dX4_bits_23 rfl (lv_at hl 1 rfl) ?_
  exact retS hx hb hr hlk dX4_bits_24 (rfl)
