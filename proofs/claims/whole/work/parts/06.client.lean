/-! Client: contracts -/
theorem lkX0_enter_9 : Cond.fieldLink RX0 9 "QuorumRegister$Client" "phase" "I" ∈ wsX0_enter := by decide +kernel
theorem inX0_enter_X0 : ∀ w ∈ wsX00, w ∈ wsX0_enter := by decide +kernel
theorem lkX0_enter_15 : Cond.fieldLink RX0 15 "QuorumRegister$Client" "answers" "I" ∈ wsX0_enter := by decide +kernel
set_option maxHeartbeats 4000000 in
set_option maxRecDepth 100000 in
/-- Client.enter(v) -/
theorem k_X0_enter (l : Launch) (dC : Nat → ClassId) (dI : Nat → Nat → Nat) (h : Nat) (F : Nat → Int32) (v : Int32) : MetV l yX0_enter wsX0_enter ({ frames := 0, cells := 0, slots := 0, locals := 0 } : Room) (dC, dI) vwCl (wC h F) ([]) [.ref h, .int v] [(h, .inr (0, [.int v, .int (F 1), .int (F 2), .int (F 3), .int (nI 0), .int (F 5), .int (F 6), .int (F 7)]))] := by
  refine MetV.of (cc := cX0_enter) (maxL := 2) (ret := none) (by decide) rfl (Nat.le_of_ble_eq_true rfl) rfl ?_
  intro p e s m below meth cd ls A hx hb hr hlk hml hown hts hK hP hD hS hA hl
  have hl : lv_has ls 2 [(0, .ref h), (1, .int v)] := hl
  refine lv_aload_n hx hb dX0_enter_0 rfl (lv_at hl 0 rfl) ?_
  refine lv_iload_n hx hb dX0_enter_1 rfl (lv_at hl 1 rfl) ?_
  refine q_put (D := (dC, dI)) (ci := 0) (v := .int v) (ty := .int) (C := RX0) (T := TX0) (N := 8) (ws' := [(h, .inr (0, [.int v, .int (F 1), .int (F 2), .int (F 3), .int (F 4), .int (F 5), .int (F 6), .int (F 7)]))]) hx hb hts inX0_enter_X0 tyX0 tyX0_ok nmX0 hown hK hP hD hS (0) rfl rfl 0 (by decide) (hts _ lkX0_enter_9) (fun _ h9 => h9) rfl (by decide +kernel) rfl rfl (Nat.le_of_ble_eq_true rfl) rfl dX0_enter_2 (fun H locs hP hD hS => ?_)
  refine lv_aload_n hx hb dX0_enter_5 rfl (lv_at hl 0 rfl) ?_
  refine lv_iconst (v := nI 0) hx hb dX0_enter_6 (by decide) ?_
  refine q_put (D := (dC, dI)) (ci := 0) (v := .int (nI 0)) (ty := .int) (C := RX0) (T := TX0) (N := 8) (ws' := [(h, .inr (0, [.int v, .int (F 1), .int (F 2), .int (F 3), .int (nI 0), .int (F 5), .int (F 6), .int (F 7)]))]) hx hb hts inX0_enter_X0 tyX0 tyX0_ok nmX0 hown hK hP hD hS (0) rfl rfl 4 (by decide) (hts _ lkX0_enter_15) (fun _ h9 => h9) rfl (by decide +kernel) rfl rfl (Nat.le_of_ble_eq_true rfl) rfl dX0_enter_7 (fun H locs hP hD hS => ?_)
  exact retV hx hb hr hlk dX0_enter_10 hS (hP)
theorem lkX0_awaits_18 : Cond.fieldLink RX0 18 "QuorumRegister$Client" "serial" "I" ∈ wsX0_awaits := by decide +kernel
theorem inX0_awaits_X0 : ∀ w ∈ wsX00, w ∈ wsX0_awaits := by decide +kernel
theorem lkX0_awaits_9 : Cond.fieldLink RX0 9 "QuorumRegister$Client" "phase" "I" ∈ wsX0_awaits := by decide +kernel
theorem lkX0_awaits_15 : Cond.fieldLink RX0 15 "QuorumRegister$Client" "answers" "I" ∈ wsX0_awaits := by decide +kernel
set_option maxHeartbeats 4000000 in
set_option maxRecDepth 100000 in
/-- Client.awaits(phase, r, serial) -/
theorem k_X0_awaits (l : Launch) (dC : Nat → ClassId) (dI : Nat → Nat → Nat) (h : Nat) (F : Nat → Int32) (ph r q : Int32) : MetS l yX0_awaits wsX0_awaits ({ frames := 0, cells := 0, slots := 0, locals := 0 } : Room) (dC, dI) vwCl (wC h F) ([]) [.ref h, .int ph, .int r, .int q] (if aw F ph r q then 1 else 0) := by
  refine MetS.of (cc := cX0_awaits) (maxL := 4) (ret := (some .boolean)) (by decide) rfl (Nat.le_of_ble_eq_true rfl) rfl ?_
  intro p e s m below meth cd ls hx hb hr hlk hml hown hts hK hP hl
  have hl : lv_has ls 4 [(0, .ref h), (1, .int ph), (2, .int r), (3, .int q)] := hl
  refine lv_aload_n hx hb dX0_awaits_0 rfl (lv_at hl 0 rfl) ?_
  refine va_get (D := (dC, dI)) (ci := 0) (v := .int (F 1)) (C := RX0) (T := TX0) (N := 8) hx hb hts inX0_awaits_X0 hown hK hP (0) rfl rfl 1 (by decide) (hts _ lkX0_awaits_18) (fun _ h9 => h9) rfl dX0_awaits_1 ?_
  refine lv_iload_n hx hb dX0_awaits_4 rfl (lv_at hl 3 rfl) ?_
  refine lv_icmp_ne (tgt := 31) hx hb dX0_awaits_5 (by decide) (fun c_5 => ?_) (fun c_5 => ?_)
  · refine lv_iconst (v := nI 0) hx hb dX0_awaits_31 (by decide) ?_
    exact retSz hx hb hr hlk dX0_awaits_32 rfl ((if_neg (fun q => c_5 q.1)).symm)
  · refine lv_aload_n hx hb dX0_awaits_8 rfl (lv_at hl 0 rfl) ?_
    refine va_get (D := (dC, dI)) (ci := 0) (v := .int (F 0)) (C := RX0) (T := TX0) (N := 8) hx hb hts inX0_awaits_X0 hown hK hP (0) rfl rfl 0 (by decide) (hts _ lkX0_awaits_9) (fun _ h9 => h9) rfl dX0_awaits_9 ?_
    refine lv_iload_n hx hb dX0_awaits_12 rfl (lv_at hl 1 rfl) ?_
    refine lv_icmp_ne (tgt := 31) hx hb dX0_awaits_13 (by decide) (fun c_13 => ?_) (fun c_13 => ?_)
    · refine lv_iconst (v := nI 0) hx hb dX0_awaits_31 (by decide) ?_
      exact retSz hx hb hr hlk dX0_awaits_32 rfl ((if_neg (fun q => c_13 q.2.1)).symm)
    · refine lv_aload_n hx hb dX0_awaits_16 rfl (lv_at hl 0 rfl) ?_
      refine va_get (D := (dC, dI)) (ci := 0) (v := .int (F 4)) (C := RX0) (T := TX0) (N := 8) hx hb hts inX0_awaits_X0 hown hK hP (0) rfl rfl 4 (by decide) (hts _ lkX0_awaits_15) (fun _ h9 => h9) rfl dX0_awaits_17 ?_
      refine lv_iconst (v := nI 1) hx hb dX0_awaits_20 (by decide) ?_
      refine lv_iload_n hx hb dX0_awaits_21 rfl (lv_at hl 2 rfl) ?_
      refine lv_ishl hx hb dX0_awaits_22 ?_
      refine lv_iand hx hb dX0_awaits_23 ?_
      refine lv_if_ne (tgt := 31) hx hb dX0_awaits_24 (by decide) (fun c_24 => ?_) (fun c_24 => ?_)
      · refine lv_iconst (v := nI 0) hx hb dX0_awaits_31 (by decide) ?_
        exact retSz hx hb hr hlk dX0_awaits_32 rfl ((if_neg (fun q => c_24 q.2.2)).symm)
      · refine lv_iconst (v := nI 1) hx hb dX0_awaits_27 (by decide) ?_
        refine lv_goto (tgt := 32) hx hb dX0_awaits_28 (by decide) ?_
        exact retSz hx hb hr hlk dX0_awaits_32 rfl ((if_pos ⟨c_5, c_13, c_24⟩).symm)
theorem lkX0_hear_15 : Cond.fieldLink RX0 15 "QuorumRegister$Client" "answers" "I" ∈ wsX0_hear := by decide +kernel
theorem inX0_hear_X0 : ∀ w ∈ wsX00, w ∈ wsX0_hear := by decide +kernel
set_option maxHeartbeats 4000000 in
set_option maxRecDepth 100000 in
/-- Client.hear(r) -/
theorem k_X0_hear (l : Launch) (dC : Nat → ClassId) (dI : Nat → Nat → Nat) (h : Nat) (F : Nat → Int32) (r : Int32) : MetV l yX0_hear wsX0_hear ({ frames := 0, cells := 0, slots := 0, locals := 0 } : Room) (dC, dI) vwCl (wC h F) ([]) [.ref h, .int r] [(h, .inr (0, [.int (F 0), .int (F 1), .int (F 2), .int (F 3), .int (F 4 ||| (nI 1 <<< (r &&& 31))), .int (F 5), .int (F 6), .int (F 7)]))] := by
  refine MetV.of (cc := cX0_hear) (maxL := 2) (ret := none) (by decide) rfl (Nat.le_of_ble_eq_true rfl) rfl ?_
  intro p e s m below meth cd ls A hx hb hr hlk hml hown hts hK hP hD hS hA hl
  have hl : lv_has ls 2 [(0, .ref h), (1, .int r)] := hl
  refine lv_aload_n hx hb dX0_hear_0 rfl (lv_at hl 0 rfl) ?_
  refine lv_dup hx hb dX0_hear_1 rfl ?_
  refine va_get (D := (dC, dI)) (ci := 0) (v := .int (F 4)) (C := RX0) (T := TX0) (N := 8) hx hb hts inX0_hear_X0 hown hK hP (0) rfl rfl 4 (by decide) (hts _ lkX0_hear_15) (fun _ h9 => h9) rfl dX0_hear_2 ?_
  refine lv_iconst (v := nI 1) hx hb dX0_hear_5 (by decide) ?_
  refine lv_iload_n hx hb dX0_hear_6 rfl (lv_at hl 1 rfl) ?_
  refine lv_ishl hx hb dX0_hear_7 ?_
  refine lv_ior hx hb dX0_hear_8 ?_
  refine q_put (D := (dC, dI)) (ci := 0) (v := .int ((F 4) ||| ((nI 1) <<< (r &&& 31)))) (ty := .int) (C := RX0) (T := TX0) (N := 8) (ws' := [(h, .inr (0, [.int (F 0), .int (F 1), .int (F 2), .int (F 3), .int ((F 4) ||| ((nI 1) <<< (r &&& 31))), .int (F 5), .int (F 6), .int (F 7)]))]) hx hb hts inX0_hear_X0 tyX0 tyX0_ok nmX0 hown hK hP hD hS (0) rfl rfl 4 (by decide) (hts _ lkX0_hear_15) (fun _ h9 => h9) rfl (by decide +kernel) rfl rfl (Nat.le_of_ble_eq_true rfl) rfl dX0_hear_9 (fun H locs hP hD hS => ?_)
  exact retV hx hb hr hlk dX0_hear_12 hS (hP)
def bcnt (x : Int32) : Int32 := (((((((x - (((x.toUInt32 >>> ((nI 1).toUInt32 &&& Int32.toUInt32 31)).toInt32) &&& (1431655765))) &&& (858993459)) + ((((x - (((x.toUInt32 >>> ((nI 1).toUInt32 &&& Int32.toUInt32 31)).toInt32) &&& (1431655765))).toUInt32 >>> ((nI 2).toUInt32 &&& Int32.toUInt32 31)).toInt32) &&& (858993459))) + (((((x - (((x.toUInt32 >>> ((nI 1).toUInt32 &&& Int32.toUInt32 31)).toInt32) &&& (1431655765))) &&& (858993459)) + ((((x - (((x.toUInt32 >>> ((nI 1).toUInt32 &&& Int32.toUInt32 31)).toInt32) &&& (1431655765))).toUInt32 >>> ((nI 2).toUInt32 &&& Int32.toUInt32 31)).toInt32) &&& (858993459))).toUInt32 >>> ((nI 4).toUInt32 &&& Int32.toUInt32 31)).toInt32)) &&& (252645135)) + (((((((x - (((x.toUInt32 >>> ((nI 1).toUInt32 &&& Int32.toUInt32 31)).toInt32) &&& (1431655765))) &&& (858993459)) + ((((x - (((x.toUInt32 >>> ((nI 1).toUInt32 &&& Int32.toUInt32 31)).toInt32) &&& (1431655765))).toUInt32 >>> ((nI 2).toUInt32 &&& Int32.toUInt32 31)).toInt32) &&& (858993459))) + (((((x - (((x.toUInt32 >>> ((nI 1).toUInt32 &&& Int32.toUInt32 31)).toInt32) &&& (1431655765))) &&& (858993459)) + ((((x - (((x.toUInt32 >>> ((nI 1).toUInt32 &&& Int32.toUInt32 31)).toInt32) &&& (1431655765))).toUInt32 >>> ((nI 2).toUInt32 &&& Int32.toUInt32 31)).toInt32) &&& (858993459))).toUInt32 >>> ((nI 4).toUInt32 &&& Int32.toUInt32 31)).toInt32)) &&& (252645135)).toUInt32 >>> ((nI 8).toUInt32 &&& Int32.toUInt32 31)).toInt32)) + ((((((((x - (((x.toUInt32 >>> ((nI 1).toUInt32 &&& Int32.toUInt32 31)).toInt32) &&& (1431655765))) &&& (858993459)) + ((((x - (((x.toUInt32 >>> ((nI 1).toUInt32 &&& Int32.toUInt32 31)).toInt32) &&& (1431655765))).toUInt32 >>> ((nI 2).toUInt32 &&& Int32.toUInt32 31)).toInt32) &&& (858993459))) + (((((x - (((x.toUInt32 >>> ((nI 1).toUInt32 &&& Int32.toUInt32 31)).toInt32) &&& (1431655765))) &&& (858993459)) + ((((x - (((x.toUInt32 >>> ((nI 1).toUInt32 &&& Int32.toUInt32 31)).toInt32) &&& (1431655765))).toUInt32 >>> ((nI 2).toUInt32 &&& Int32.toUInt32 31)).toInt32) &&& (858993459))).toUInt32 >>> ((nI 4).toUInt32 &&& Int32.toUInt32 31)).toInt32)) &&& (252645135)) + (((((((x - (((x.toUInt32 >>> ((nI 1).toUInt32 &&& Int32.toUInt32 31)).toInt32) &&& (1431655765))) &&& (858993459)) + ((((x - (((x.toUInt32 >>> ((nI 1).toUInt32 &&& Int32.toUInt32 31)).toInt32) &&& (1431655765))).toUInt32 >>> ((nI 2).toUInt32 &&& Int32.toUInt32 31)).toInt32) &&& (858993459))) + (((((x - (((x.toUInt32 >>> ((nI 1).toUInt32 &&& Int32.toUInt32 31)).toInt32) &&& (1431655765))) &&& (858993459)) + ((((x - (((x.toUInt32 >>> ((nI 1).toUInt32 &&& Int32.toUInt32 31)).toInt32) &&& (1431655765))).toUInt32 >>> ((nI 2).toUInt32 &&& Int32.toUInt32 31)).toInt32) &&& (858993459))).toUInt32 >>> ((nI 4).toUInt32 &&& Int32.toUInt32 31)).toInt32)) &&& (252645135)).toUInt32 >>> ((nI 8).toUInt32 &&& Int32.toUInt32 31)).toInt32)).toUInt32 >>> ((nI 16).toUInt32 &&& Int32.toUInt32 31)).toInt32)) &&& (nI 63)
theorem bcnt_bits : ∀ a, a < 32 → bcnt (nI a) = nI (bits a) := by decide +kernel
theorem wdJ6_bitCount_0f7a4_c265 : Cond.constant RJ6 265 (1431655765) ∈ wsJ6_bitCount_0f7a4 := by decide +kernel
theorem wdJ6_bitCount_0f7a4_c266 : Cond.constant RJ6 266 (858993459) ∈ wsJ6_bitCount_0f7a4 := by decide +kernel
theorem wdJ6_bitCount_0f7a4_c267 : Cond.constant RJ6 267 (252645135) ∈ wsJ6_bitCount_0f7a4 := by decide +kernel
set_option maxHeartbeats 4000000 in
set_option maxRecDepth 100000 in
/-- Integer.bitCount(x) -/
theorem k_J6_bitCount_0f7a4 (l : Launch) (dC : Nat → ClassId) (dI : Nat → Nat → Nat) (x : Int32) : MetS l yJ6_bitCount_0f7a4 wsJ6_bitCount_0f7a4 ({ frames := 0, cells := 0, slots := 0, locals := 0 } : Room) (dC, dI) vwCl ([]) ([]) [.int x] (bcnt x) := by
  refine MetS.of (cc := cJ6_bitCount_0f7a4) (maxL := 1) (ret := (some .int)) (by decide) rfl (Nat.le_of_ble_eq_true rfl) rfl ?_
  intro p e s m below meth cd ls hx hb hr hlk hml hown hts hK hP hl
  have hl : lv_has ls 1 [(0, .int x)] := hl
  refine lv_iload_n hx hb dJ6_bitCount_0f7a4_0 rfl (lv_at hl 0 rfl) ?_
  refine lv_iload_n hx hb dJ6_bitCount_0f7a4_1 rfl (lv_at hl 0 rfl) ?_
  refine lv_iconst (v := nI 1) hx hb dJ6_bitCount_0f7a4_2 (by decide) ?_
  refine lv_iushr hx hb dJ6_bitCount_0f7a4_3 rfl ?_
  refine lv_ldcw hx hb hown (hts _ wdJ6_bitCount_0f7a4_c265) dJ6_bitCount_0f7a4_4 ?_
  refine lv_iand hx hb dJ6_bitCount_0f7a4_7 ?_
  refine lv_isub hx hb dJ6_bitCount_0f7a4_8 ?_
  refine lv_istore_n (lv' := [(0, .int (x - (((x.toUInt32 >>> ((nI 1).toUInt32 &&& Int32.toUInt32 31)).toInt32) &&& (1431655765))))]) hx hb dJ6_bitCount_0f7a4_9 rfl hl (by decide) rfl (fun ls hl => ?_)
  refine lv_iload_n hx hb dJ6_bitCount_0f7a4_10 rfl (lv_at hl 0 rfl) ?_
  refine lv_ldcw hx hb hown (hts _ wdJ6_bitCount_0f7a4_c266) dJ6_bitCount_0f7a4_11 ?_
  refine lv_iand hx hb dJ6_bitCount_0f7a4_14 ?_
  refine lv_iload_n hx hb dJ6_bitCount_0f7a4_15 rfl (lv_at hl 0 rfl) ?_
  refine lv_iconst (v := nI 2) hx hb dJ6_bitCount_0f7a4_16 (by decide) ?_
  refine lv_iushr hx hb dJ6_bitCount_0f7a4_17 rfl ?_
  refine lv_ldcw hx hb hown (hts _ wdJ6_bitCount_0f7a4_c266) dJ6_bitCount_0f7a4_18 ?_
  refine lv_iand hx hb dJ6_bitCount_0f7a4_21 ?_
  refine lv_iadd hx hb dJ6_bitCount_0f7a4_22 ?_
  refine lv_istore_n (lv' := [(0, .int (((x - (((x.toUInt32 >>> ((nI 1).toUInt32 &&& Int32.toUInt32 31)).toInt32) &&& (1431655765))) &&& (858993459)) + ((((x - (((x.toUInt32 >>> ((nI 1).toUInt32 &&& Int32.toUInt32 31)).toInt32) &&& (1431655765))).toUInt32 >>> ((nI 2).toUInt32 &&& Int32.toUInt32 31)).toInt32) &&& (858993459))))]) hx hb dJ6_bitCount_0f7a4_23 rfl hl (by decide) rfl (fun ls hl => ?_)
  refine lv_iload_n hx hb dJ6_bitCount_0f7a4_24 rfl (lv_at hl 0 rfl) ?_
  refine lv_iload_n hx hb dJ6_bitCount_0f7a4_25 rfl (lv_at hl 0 rfl) ?_
  refine lv_iconst (v := nI 4) hx hb dJ6_bitCount_0f7a4_26 (by decide) ?_
  refine lv_iushr hx hb dJ6_bitCount_0f7a4_27 rfl ?_
  refine lv_iadd hx hb dJ6_bitCount_0f7a4_28 ?_
  refine lv_ldcw hx hb hown (hts _ wdJ6_bitCount_0f7a4_c267) dJ6_bitCount_0f7a4_29 ?_
  refine lv_iand hx hb dJ6_bitCount_0f7a4_32 ?_
  refine lv_istore_n (lv' := [(0, .int (((((x - (((x.toUInt32 >>> ((nI 1).toUInt32 &&& Int32.toUInt32 31)).toInt32) &&& (1431655765))) &&& (858993459)) + ((((x - (((x.toUInt32 >>> ((nI 1).toUInt32 &&& Int32.toUInt32 31)).toInt32) &&& (1431655765))).toUInt32 >>> ((nI 2).toUInt32 &&& Int32.toUInt32 31)).toInt32) &&& (858993459))) + (((((x - (((x.toUInt32 >>> ((nI 1).toUInt32 &&& Int32.toUInt32 31)).toInt32) &&& (1431655765))) &&& (858993459)) + ((((x - (((x.toUInt32 >>> ((nI 1).toUInt32 &&& Int32.toUInt32 31)).toInt32) &&& (1431655765))).toUInt32 >>> ((nI 2).toUInt32 &&& Int32.toUInt32 31)).toInt32) &&& (858993459))).toUInt32 >>> ((nI 4).toUInt32 &&& Int32.toUInt32 31)).toInt32)) &&& (252645135)))]) hx hb dJ6_bitCount_0f7a4_33 rfl hl (by decide) rfl (fun ls hl => ?_)
  refine lv_iload_n hx hb dJ6_bitCount_0f7a4_34 rfl (lv_at hl 0 rfl) ?_
  refine lv_iload_n hx hb dJ6_bitCount_0f7a4_35 rfl (lv_at hl 0 rfl) ?_
  refine lv_bipush (v := nI 8) hx hb dJ6_bitCount_0f7a4_36 (by decide) ?_
  refine lv_iushr hx hb dJ6_bitCount_0f7a4_38 rfl ?_
  refine lv_iadd hx hb dJ6_bitCount_0f7a4_39 ?_
  refine lv_istore_n (lv' := [(0, .int ((((((x - (((x.toUInt32 >>> ((nI 1).toUInt32 &&& Int32.toUInt32 31)).toInt32) &&& (1431655765))) &&& (858993459)) + ((((x - (((x.toUInt32 >>> ((nI 1).toUInt32 &&& Int32.toUInt32 31)).toInt32) &&& (1431655765))).toUInt32 >>> ((nI 2).toUInt32 &&& Int32.toUInt32 31)).toInt32) &&& (858993459))) + (((((x - (((x.toUInt32 >>> ((nI 1).toUInt32 &&& Int32.toUInt32 31)).toInt32) &&& (1431655765))) &&& (858993459)) + ((((x - (((x.toUInt32 >>> ((nI 1).toUInt32 &&& Int32.toUInt32 31)).toInt32) &&& (1431655765))).toUInt32 >>> ((nI 2).toUInt32 &&& Int32.toUInt32 31)).toInt32) &&& (858993459))).toUInt32 >>> ((nI 4).toUInt32 &&& Int32.toUInt32 31)).toInt32)) &&& (252645135)) + (((((((x - (((x.toUInt32 >>> ((nI 1).toUInt32 &&& Int32.toUInt32 31)).toInt32) &&& (1431655765))) &&& (858993459)) + ((((x - (((x.toUInt32 >>> ((nI 1).toUInt32 &&& Int32.toUInt32 31)).toInt32) &&& (1431655765))).toUInt32 >>> ((nI 2).toUInt32 &&& Int32.toUInt32 31)).toInt32) &&& (858993459))) + (((((x - (((x.toUInt32 >>> ((nI 1).toUInt32 &&& Int32.toUInt32 31)).toInt32) &&& (1431655765))) &&& (858993459)) + ((((x - (((x.toUInt32 >>> ((nI 1).toUInt32 &&& Int32.toUInt32 31)).toInt32) &&& (1431655765))).toUInt32 >>> ((nI 2).toUInt32 &&& Int32.toUInt32 31)).toInt32) &&& (858993459))).toUInt32 >>> ((nI 4).toUInt32 &&& Int32.toUInt32 31)).toInt32)) &&& (252645135)).toUInt32 >>> ((nI 8).toUInt32 &&& Int32.toUInt32 31)).toInt32)))]) hx hb dJ6_bitCount_0f7a4_40 rfl hl (by decide) rfl (fun ls hl => ?_)
  refine lv_iload_n hx hb dJ6_bitCount_0f7a4_41 rfl (lv_at hl 0 rfl) ?_
  refine lv_iload_n hx hb dJ6_bitCount_0f7a4_42 rfl (lv_at hl 0 rfl) ?_
  refine lv_bipush (v := nI 16) hx hb dJ6_bitCount_0f7a4_43 (by decide) ?_
  refine lv_iushr hx hb dJ6_bitCount_0f7a4_45 rfl ?_
  refine lv_iadd hx hb dJ6_bitCount_0f7a4_46 ?_
  refine lv_istore_n (lv' := [(0, .int (((((((x - (((x.toUInt32 >>> ((nI 1).toUInt32 &&& Int32.toUInt32 31)).toInt32) &&& (1431655765))) &&& (858993459)) + ((((x - (((x.toUInt32 >>> ((nI 1).toUInt32 &&& Int32.toUInt32 31)).toInt32) &&& (1431655765))).toUInt32 >>> ((nI 2).toUInt32 &&& Int32.toUInt32 31)).toInt32) &&& (858993459))) + (((((x - (((x.toUInt32 >>> ((nI 1).toUInt32 &&& Int32.toUInt32 31)).toInt32) &&& (1431655765))) &&& (858993459)) + ((((x - (((x.toUInt32 >>> ((nI 1).toUInt32 &&& Int32.toUInt32 31)).toInt32) &&& (1431655765))).toUInt32 >>> ((nI 2).toUInt32 &&& Int32.toUInt32 31)).toInt32) &&& (858993459))).toUInt32 >>> ((nI 4).toUInt32 &&& Int32.toUInt32 31)).toInt32)) &&& (252645135)) + (((((((x - (((x.toUInt32 >>> ((nI 1).toUInt32 &&& Int32.toUInt32 31)).toInt32) &&& (1431655765))) &&& (858993459)) + ((((x - (((x.toUInt32 >>> ((nI 1).toUInt32 &&& Int32.toUInt32 31)).toInt32) &&& (1431655765))).toUInt32 >>> ((nI 2).toUInt32 &&& Int32.toUInt32 31)).toInt32) &&& (858993459))) + (((((x - (((x.toUInt32 >>> ((nI 1).toUInt32 &&& Int32.toUInt32 31)).toInt32) &&& (1431655765))) &&& (858993459)) + ((((x - (((x.toUInt32 >>> ((nI 1).toUInt32 &&& Int32.toUInt32 31)).toInt32) &&& (1431655765))).toUInt32 >>> ((nI 2).toUInt32 &&& Int32.toUInt32 31)).toInt32) &&& (858993459))).toUInt32 >>> ((nI 4).toUInt32 &&& Int32.toUInt32 31)).toInt32)) &&& (252645135)).toUInt32 >>> ((nI 8).toUInt32 &&& Int32.toUInt32 31)).toInt32)) + ((((((((x - (((x.toUInt32 >>> ((nI 1).toUInt32 &&& Int32.toUInt32 31)).toInt32) &&& (1431655765))) &&& (858993459)) + ((((x - (((x.toUInt32 >>> ((nI 1).toUInt32 &&& Int32.toUInt32 31)).toInt32) &&& (1431655765))).toUInt32 >>> ((nI 2).toUInt32 &&& Int32.toUInt32 31)).toInt32) &&& (858993459))) + (((((x - (((x.toUInt32 >>> ((nI 1).toUInt32 &&& Int32.toUInt32 31)).toInt32) &&& (1431655765))) &&& (858993459)) + ((((x - (((x.toUInt32 >>> ((nI 1).toUInt32 &&& Int32.toUInt32 31)).toInt32) &&& (1431655765))).toUInt32 >>> ((nI 2).toUInt32 &&& Int32.toUInt32 31)).toInt32) &&& (858993459))).toUInt32 >>> ((nI 4).toUInt32 &&& Int32.toUInt32 31)).toInt32)) &&& (252645135)) + (((((((x - (((x.toUInt32 >>> ((nI 1).toUInt32 &&& Int32.toUInt32 31)).toInt32) &&& (1431655765))) &&& (858993459)) + ((((x - (((x.toUInt32 >>> ((nI 1).toUInt32 &&& Int32.toUInt32 31)).toInt32) &&& (1431655765))).toUInt32 >>> ((nI 2).toUInt32 &&& Int32.toUInt32 31)).toInt32) &&& (858993459))) + (((((x - (((x.toUInt32 >>> ((nI 1).toUInt32 &&& Int32.toUInt32 31)).toInt32) &&& (1431655765))) &&& (858993459)) + ((((x - (((x.toUInt32 >>> ((nI 1).toUInt32 &&& Int32.toUInt32 31)).toInt32) &&& (1431655765))).toUInt32 >>> ((nI 2).toUInt32 &&& Int32.toUInt32 31)).toInt32) &&& (858993459))).toUInt32 >>> ((nI 4).toUInt32 &&& Int32.toUInt32 31)).toInt32)) &&& (252645135)).toUInt32 >>> ((nI 8).toUInt32 &&& Int32.toUInt32 31)).toInt32)).toUInt32 >>> ((nI 16).toUInt32 &&& Int32.toUInt32 31)).toInt32)))]) hx hb dJ6_bitCount_0f7a4_47 rfl hl (by decide) rfl (fun ls hl => ?_)
  refine lv_iload_n hx hb dJ6_bitCount_0f7a4_48 rfl (lv_at hl 0 rfl) ?_
  refine lv_bipush (v := nI 63) hx hb dJ6_bitCount_0f7a4_49 (by decide) ?_
  refine lv_iand hx hb dJ6_bitCount_0f7a4_51 ?_
  exact retS hx hb hr hlk dJ6_bitCount_0f7a4_52 rfl
theorem lkX0_hasQuorum_15 : Cond.fieldLink RX0 15 "QuorumRegister$Client" "answers" "I" ∈ wsX0_hasQuorum := by decide +kernel
theorem inX0_hasQuorum_X0 : ∀ w ∈ wsX00, w ∈ wsX0_hasQuorum := by decide +kernel
set_option maxHeartbeats 4000000 in
set_option maxRecDepth 100000 in
/-- Client.hasQuorum() -/
theorem k_X0_hasQuorum (l : Launch) (dC : Nat → ClassId) (dI : Nat → Nat → Nat) (h : Nat) (F : Nat → Int32) (a : Nat) (ha : a < 32) (hF : F 4 = nI a) : MetS l yX0_hasQuorum wsX0_hasQuorum ({ frames := 1, cells := 0, slots := 0, locals := 20 } : Room) (dC, dI) vwCl (wC h F) ([]) [.ref h] (if 3 ≤ bits a then 1 else 0) := by
  refine MetS.of (cc := cX0_hasQuorum) (maxL := 1) (ret := (some .boolean)) (by decide) rfl (Nat.le_of_ble_eq_true rfl) rfl ?_
  intro p e s m below meth cd ls hx hb hr hlk hml hown hts hK hP hl
  have hl : lv_has ls 1 [(0, .ref h)] := hl
  refine lv_aload_n hx hb dX0_hasQuorum_0 rfl (lv_at hl 0 rfl) ?_
  refine va_get (D := (dC, dI)) (ci := 0) (v := .int (F 4)) (C := RX0) (T := TX0) (N := 8) hx hb hts inX0_hasQuorum_X0 hown hK hP (0) rfl rfl 4 (by decide) (hts _ lkX0_hasQuorum_15) (fun _ h9 => h9) rfl dX0_hasQuorum_1 ?_
  refine goS (va_runS (rm := ({ frames := 0, cells := 0, slots := 0, locals := 0 } : Room)) (As := [.int (F 4)]) (rest := []) ⟨hx, hb, hml, hown, hts⟩ (MetS.at (k_J6_bitCount_0f7a4 l dC dI (F 4))) (va_cwS 1 hts gX0_hasQuorum_J6_bitCount_0f7a4 rfl rfl rfl (by decide +kernel) ⟨Nat.le_of_ble_eq_true rfl, Nat.le_of_ble_eq_true rfl⟩) (preSS (hK.sub [] rfl) va_P0) rfl rfl hl.1 rfl (lv_room (Nat.le_of_ble_eq_true rfl)) dX0_hasQuorum_4 ⟨Nat.le_of_ble_eq_true rfl, Nat.le_of_ble_eq_true rfl⟩) ?_
  refine qtop (y := nI (bits a)) (by rw [hF, bcnt_bits a ha]) ?_
  refine lv_iconst (v := nI 3) hx hb dX0_hasQuorum_7 (by decide) ?_
  refine lv_icmp_lt (tgt := 15) hx hb dX0_hasQuorum_8 (by decide) (fun c_8 => ?_) (fun c_8 => ?_)
  · refine lv_iconst (v := nI 0) hx hb dX0_hasQuorum_15 (by decide) ?_
    exact retSz hx hb hr hlk dX0_hasQuorum_16 rfl ((if_neg (fun q => absurd c_8 (nI_nlt q (by have := bits_le a; omega)))).symm)
  · refine lv_iconst (v := nI 1) hx hb dX0_hasQuorum_11 (by decide) ?_
    refine lv_goto (tgt := 16) hx hb dX0_hasQuorum_12 (by decide) ?_
    exact retSz hx hb hr hlk dX0_hasQuorum_16 rfl ((if_pos ((Nat.lt_or_ge (bits a) 3).elim (fun q => absurd (nI_lt q (by decide)) c_8) id)).symm)
