/-! QuorumRegister: deliver and the rest -/
theorem k_X2_cellN (l : Launch) (dC : Nat → ClassId) (dI : Nat → Nat → Nat) (h hc : Nat) (kA : ClassId) (w mo n : Nat) (f : Nat → Int32) (hn : n ≤ mo) (hmo : mo < 2 ^ 31) (hw : w < 2 ^ 31) (hwm : w * mo < 2 ^ 31) (i j : Nat) (hi : i < n) (hj : j < w) : MetS l yX2_cell wsX2_cell ({ frames := 1, cells := 0, slots := 0, locals := 21 } : Room) (dC, dI) vwCl (wR h hc kA w mo n f) [(kA, .int)] [.ref h, .int (nI i), .int (nI j)] (f (i * w + j)) := by
  have q := k_X2_cell l dC dI h hc kA w mo n f hn hmo hw hwm (nI i) (nI j)
  rw [if_pos (okI_nI hi (by omega)), if_pos (okI_nI hj hw), nI_clamp (by omega), nI_clamp (by omega)] at q
  exact q
theorem lkX3_deliver_28 : Cond.fieldLink RX3 28 "QuorumRegister" "pool" "LQuorumRegister$Rows;" ∈ wsX3_deliver := by decide +kernel
theorem inX3_deliver_X3 : ∀ w ∈ wsX30, w ∈ wsX3_deliver := by decide +kernel
theorem lkX3_deliver_64 : Cond.fieldLink RX3 64 "QuorumRegister$Rows" "count" "I" ∈ wsX3_deliver := by decide +kernel
theorem inX3_deliver_X2 : ∀ w ∈ wsX20, w ∈ wsX3_deliver := by decide +kernel
set_option maxHeartbeats 4000000 in
set_option maxRecDepth 100000 in
/-- deliver(i) -/
theorem k_X3_deliver (l : Launch) (dC : Nat → ClassId) (dI : Nat → Nat → Nat) (o : Nat → Nat) (k : Nat → ClassId) (R C : Nat → Nat → Int32) (n : Nat) (f : Nat → Int32) (d : Nat) (g : Nat → Int32) (hn : n ≤ 77) (hm : ∀ i, i < n → (∃ c, c < 3 ∧ f (i * 6 + 1) = nI c) ∧ (∃ r, r < 5 ∧ f (i * 6 + 2) = nI r)) (ha : ∀ c, c < 3 → ∃ a, a < 32 ∧ C c 4 = nI a) (hroom : ∀ c, c < 3 → C c 0 = nI 1 → n + 4 ≤ 77) (hdn : ∀ c, c < 3 → C c 0 = nI 2 → 2 ≤ bts (C c 4) → d < 39) (p0 : Int32) : MetI l yX3_deliver wsX3_deliver ({ frames := 6, cells := 0, slots := 0, locals := 145 } : Room) (dC, dI) vwCl (wX o k R C n f d g) (tyX k) [.ref (o 0), .int p0] (dlX (R, C, n, f, d, g) p0) (wS o k (dlS (R, C, n, f, d, g) p0)) := by
  refine MetI.of (cc := cX3_deliver) (maxL := 9) (ret := (some .int)) (by decide) rfl (Nat.le_of_ble_eq_true rfl) rfl ?_
  intro p e s m below meth cd ls A hx hb hr hlk hml hown hts hK hP hD hS hA hl
  have hl : lv_has ls 9 [(0, .ref (o 0)), (1, .int p0)] := hl
  refine lv_aload_n hx hb dX3_deliver_0 rfl (lv_at hl 0 rfl) ?_
  refine va_get (D := (dC, dI)) (ci := 3) (v := .ref (o 3)) (C := RX3) (T := TX3) (N := 4) hx hb hts inX3_deliver_X3 hown hK hP (0) rfl rfl 2 (by decide) (hts _ lkX3_deliver_28) (fun _ h9 => h9) rfl dX3_deliver_1 ?_
  refine lv_iload_n hx hb dX3_deliver_4 rfl (lv_at hl 1 rfl) ?_
  refine goS (va_runV (rm := ({ frames := 0, cells := 0, slots := 0, locals := 0 } : Room)) (As := [.int p0]) (rest := []) ⟨hx, hb, hml, hown, hts⟩ (MetS.at (k_X2_has l dC dI (o 3) (o 4) (k 2) 6 77 n f p0)) (cwV 1 hts gX3_deliver_X2_has rfl rfl rfl (by decide +kernel) ⟨Nat.le_of_ble_eq_true rfl, Nat.le_of_ble_eq_true rfl⟩) (preSV (show va_K (dC, dI) vwCl [(k 2, .int)] s from hK.sub [2] rfl) (show va_P (dC, dI) vwCl (wR (o 3) (o 4) (k 2) 6 77 n f) s.heap from hP.sub [3, 4] rfl) (va_recv hK hP (ci := 2) (q0 := 3) rfl rfl)) rfl rfl hl.1 rfl (lv_room (Nat.le_of_ble_eq_true rfl)) dX3_deliver_5 ⟨Nat.le_of_ble_eq_true rfl, Nat.le_of_ble_eq_true rfl⟩) ?_
  refine lv_if_ne (tgt := 13) hx hb dX3_deliver_8 (by decide) (fun c_8 => ?_) (fun c_8 => ?_)
  · have c_8 := it_yes c_8
    obtain ⟨i, lt_i, rfl⟩ := okI_of c_8 (by omega)
    obtain ⟨⟨c, lt_c, e_c⟩, ⟨r, lt_r, e_r⟩⟩ := hm i lt_i
    obtain ⟨a, lt_a, e_a⟩ := ha c lt_c
    refine lv_aload_n hx hb dX3_deliver_13 rfl (lv_at hl 0 rfl) ?_
    refine va_get (D := (dC, dI)) (ci := 3) (v := .ref (o 3)) (C := RX3) (T := TX3) (N := 4) hx hb hts inX3_deliver_X3 hown hK hP (0) rfl rfl 2 (by decide) (hts _ lkX3_deliver_28) (fun _ h9 => h9) rfl dX3_deliver_14 ?_
    refine lv_iload_n hx hb dX3_deliver_17 rfl (lv_at hl 1 rfl) ?_
    refine lv_iconst (v := nI 0) hx hb dX3_deliver_18 (by decide) ?_
    refine goS (va_runV (rm := ({ frames := 1, cells := 0, slots := 0, locals := 21 } : Room)) (As := [.int (nI i), .int (nI 0)]) (rest := []) ⟨hx, hb, hml, hown, hts⟩ (MetS.at (k_X2_cellN l dC dI (o 3) (o 4) (k 2) 6 77 n f hn (Nat.le_of_ble_eq_true rfl) (Nat.le_of_ble_eq_true rfl) (Nat.le_of_ble_eq_true rfl) i 0 lt_i (by decide))) (cwV 2 hts gX3_deliver_X2_cell rfl rfl rfl (by decide +kernel) ⟨Nat.le_of_ble_eq_true rfl, Nat.le_of_ble_eq_true rfl⟩) (preSV (show va_K (dC, dI) vwCl [(k 2, .int)] s from hK.sub [2] rfl) (show va_P (dC, dI) vwCl (wR (o 3) (o 4) (k 2) 6 77 n f) s.heap from hP.sub [3, 4] rfl) (va_recv hK hP (ci := 2) (q0 := 3) rfl rfl)) rfl rfl hl.1 rfl (lv_room (Nat.le_of_ble_eq_true rfl)) dX3_deliver_19 ⟨Nat.le_of_ble_eq_true rfl, Nat.le_of_ble_eq_true rfl⟩) ?_
    refine lv_istore_n (lv' := [(2, .int (f (i * 6 + 0))), (0, .ref (o 0)), (1, .int (nI i))]) hx hb dX3_deliver_22 rfl hl (by decide) rfl (fun ls hl => ?_)
    refine lv_aload_n hx hb dX3_deliver_23 rfl (lv_at hl 1 rfl) ?_
    refine va_get (D := (dC, dI)) (ci := 3) (v := .ref (o 3)) (C := RX3) (T := TX3) (N := 4) hx hb hts inX3_deliver_X3 hown hK hP (0) rfl rfl 2 (by decide) (hts _ lkX3_deliver_28) (fun _ h9 => h9) rfl dX3_deliver_24 ?_
    refine lv_iload_n hx hb dX3_deliver_27 rfl (lv_at hl 2 rfl) ?_
    refine lv_iconst (v := nI 1) hx hb dX3_deliver_28 (by decide) ?_
    refine goS (va_runV (rm := ({ frames := 1, cells := 0, slots := 0, locals := 21 } : Room)) (As := [.int (nI i), .int (nI 1)]) (rest := []) ⟨hx, hb, hml, hown, hts⟩ (MetS.at (k_X2_cellN l dC dI (o 3) (o 4) (k 2) 6 77 n f hn (Nat.le_of_ble_eq_true rfl) (Nat.le_of_ble_eq_true rfl) (Nat.le_of_ble_eq_true rfl) i 1 lt_i (by decide))) (cwV 2 hts gX3_deliver_X2_cell rfl rfl rfl (by decide +kernel) ⟨Nat.le_of_ble_eq_true rfl, Nat.le_of_ble_eq_true rfl⟩) (preSV (show va_K (dC, dI) vwCl [(k 2, .int)] s from hK.sub [2] rfl) (show va_P (dC, dI) vwCl (wR (o 3) (o 4) (k 2) 6 77 n f) s.heap from hP.sub [3, 4] rfl) (va_recv hK hP (ci := 2) (q0 := 3) rfl rfl)) rfl rfl hl.1 rfl (lv_room (Nat.le_of_ble_eq_true rfl)) dX3_deliver_29 ⟨Nat.le_of_ble_eq_true rfl, Nat.le_of_ble_eq_true rfl⟩) ?_
    refine qtop (y := nI c) e_c ?_
    refine lv_istore_n (lv' := [(3, .int (nI c)), (2, .int (f (i * 6 + 0))), (0, .ref (o 0)), (1, .int (nI i))]) hx hb dX3_deliver_32 rfl hl (by decide) rfl (fun ls hl => ?_)
    refine lv_aload_n hx hb dX3_deliver_33 rfl (lv_at hl 2 rfl) ?_
    refine va_get (D := (dC, dI)) (ci := 3) (v := .ref (o 3)) (C := RX3) (T := TX3) (N := 4) hx hb hts inX3_deliver_X3 hown hK hP (0) rfl rfl 2 (by decide) (hts _ lkX3_deliver_28) (fun _ h9 => h9) rfl dX3_deliver_34 ?_
    refine lv_iload_n hx hb dX3_deliver_37 rfl (lv_at hl 3 rfl) ?_
    refine lv_iconst (v := nI 2) hx hb dX3_deliver_38 (by decide) ?_
    refine goS (va_runV (rm := ({ frames := 1, cells := 0, slots := 0, locals := 21 } : Room)) (As := [.int (nI i), .int (nI 2)]) (rest := []) ⟨hx, hb, hml, hown, hts⟩ (MetS.at (k_X2_cellN l dC dI (o 3) (o 4) (k 2) 6 77 n f hn (Nat.le_of_ble_eq_true rfl) (Nat.le_of_ble_eq_true rfl) (Nat.le_of_ble_eq_true rfl) i 2 lt_i (by decide))) (cwV 2 hts gX3_deliver_X2_cell rfl rfl rfl (by decide +kernel) ⟨Nat.le_of_ble_eq_true rfl, Nat.le_of_ble_eq_true rfl⟩) (preSV (show va_K (dC, dI) vwCl [(k 2, .int)] s from hK.sub [2] rfl) (show va_P (dC, dI) vwCl (wR (o 3) (o 4) (k 2) 6 77 n f) s.heap from hP.sub [3, 4] rfl) (va_recv hK hP (ci := 2) (q0 := 3) rfl rfl)) rfl rfl hl.1 rfl (lv_room (Nat.le_of_ble_eq_true rfl)) dX3_deliver_39 ⟨Nat.le_of_ble_eq_true rfl, Nat.le_of_ble_eq_true rfl⟩) ?_
    refine qtop (y := nI r) e_r ?_
    refine lv_istore (lv' := [(4, .int (nI r)), (3, .int (nI c)), (2, .int (f (i * 6 + 0))), (0, .ref (o 0)), (1, .int (nI i))]) hx hb dX3_deliver_42 hl (by decide) rfl (fun ls hl => ?_)
    refine lv_aload_n hx hb dX3_deliver_44 rfl (lv_at hl 3 rfl) ?_
    refine va_get (D := (dC, dI)) (ci := 3) (v := .ref (o 3)) (C := RX3) (T := TX3) (N := 4) hx hb hts inX3_deliver_X3 hown hK hP (0) rfl rfl 2 (by decide) (hts _ lkX3_deliver_28) (fun _ h9 => h9) rfl dX3_deliver_45 ?_
    refine lv_iload_n hx hb dX3_deliver_48 rfl (lv_at hl 4 rfl) ?_
    refine lv_iconst (v := nI 3) hx hb dX3_deliver_49 (by decide) ?_
    refine goS (va_runV (rm := ({ frames := 1, cells := 0, slots := 0, locals := 21 } : Room)) (As := [.int (nI i), .int (nI 3)]) (rest := []) ⟨hx, hb, hml, hown, hts⟩ (MetS.at (k_X2_cellN l dC dI (o 3) (o 4) (k 2) 6 77 n f hn (Nat.le_of_ble_eq_true rfl) (Nat.le_of_ble_eq_true rfl) (Nat.le_of_ble_eq_true rfl) i 3 lt_i (by decide))) (cwV 2 hts gX3_deliver_X2_cell rfl rfl rfl (by decide +kernel) ⟨Nat.le_of_ble_eq_true rfl, Nat.le_of_ble_eq_true rfl⟩) (preSV (show va_K (dC, dI) vwCl [(k 2, .int)] s from hK.sub [2] rfl) (show va_P (dC, dI) vwCl (wR (o 3) (o 4) (k 2) 6 77 n f) s.heap from hP.sub [3, 4] rfl) (va_recv hK hP (ci := 2) (q0 := 3) rfl rfl)) rfl rfl hl.1 rfl (lv_room (Nat.le_of_ble_eq_true rfl)) dX3_deliver_50 ⟨Nat.le_of_ble_eq_true rfl, Nat.le_of_ble_eq_true rfl⟩) ?_
    refine lv_istore (lv' := [(5, .int (f (i * 6 + 3))), (4, .int (nI r)), (3, .int (nI c)), (2, .int (f (i * 6 + 0))), (0, .ref (o 0)), (1, .int (nI i))]) hx hb dX3_deliver_53 hl (by decide) rfl (fun ls hl => ?_)
    refine lv_aload_n hx hb dX3_deliver_55 rfl (lv_at hl 4 rfl) ?_
    refine va_get (D := (dC, dI)) (ci := 3) (v := .ref (o 3)) (C := RX3) (T := TX3) (N := 4) hx hb hts inX3_deliver_X3 hown hK hP (0) rfl rfl 2 (by decide) (hts _ lkX3_deliver_28) (fun _ h9 => h9) rfl dX3_deliver_56 ?_
    refine lv_iload_n hx hb dX3_deliver_59 rfl (lv_at hl 5 rfl) ?_
    refine lv_iconst (v := nI 4) hx hb dX3_deliver_60 (by decide) ?_
    refine goS (va_runV (rm := ({ frames := 1, cells := 0, slots := 0, locals := 21 } : Room)) (As := [.int (nI i), .int (nI 4)]) (rest := []) ⟨hx, hb, hml, hown, hts⟩ (MetS.at (k_X2_cellN l dC dI (o 3) (o 4) (k 2) 6 77 n f hn (Nat.le_of_ble_eq_true rfl) (Nat.le_of_ble_eq_true rfl) (Nat.le_of_ble_eq_true rfl) i 4 lt_i (by decide))) (cwV 2 hts gX3_deliver_X2_cell rfl rfl rfl (by decide +kernel) ⟨Nat.le_of_ble_eq_true rfl, Nat.le_of_ble_eq_true rfl⟩) (preSV (show va_K (dC, dI) vwCl [(k 2, .int)] s from hK.sub [2] rfl) (show va_P (dC, dI) vwCl (wR (o 3) (o 4) (k 2) 6 77 n f) s.heap from hP.sub [3, 4] rfl) (va_recv hK hP (ci := 2) (q0 := 3) rfl rfl)) rfl rfl hl.1 rfl (lv_room (Nat.le_of_ble_eq_true rfl)) dX3_deliver_61 ⟨Nat.le_of_ble_eq_true rfl, Nat.le_of_ble_eq_true rfl⟩) ?_
    refine lv_istore (lv' := [(6, .int (f (i * 6 + 4))), (5, .int (f (i * 6 + 3))), (4, .int (nI r)), (3, .int (nI c)), (2, .int (f (i * 6 + 0))), (0, .ref (o 0)), (1, .int (nI i))]) hx hb dX3_deliver_64 hl (by decide) rfl (fun ls hl => ?_)
    refine lv_aload_n hx hb dX3_deliver_66 rfl (lv_at hl 5 rfl) ?_
    refine va_get (D := (dC, dI)) (ci := 3) (v := .ref (o 3)) (C := RX3) (T := TX3) (N := 4) hx hb hts inX3_deliver_X3 hown hK hP (0) rfl rfl 2 (by decide) (hts _ lkX3_deliver_28) (fun _ h9 => h9) rfl dX3_deliver_67 ?_
    refine lv_iload_n hx hb dX3_deliver_70 rfl (lv_at hl 6 rfl) ?_
    refine lv_iconst (v := nI 5) hx hb dX3_deliver_71 (by decide) ?_
    refine goS (va_runV (rm := ({ frames := 1, cells := 0, slots := 0, locals := 21 } : Room)) (As := [.int (nI i), .int (nI 5)]) (rest := []) ⟨hx, hb, hml, hown, hts⟩ (MetS.at (k_X2_cellN l dC dI (o 3) (o 4) (k 2) 6 77 n f hn (Nat.le_of_ble_eq_true rfl) (Nat.le_of_ble_eq_true rfl) (Nat.le_of_ble_eq_true rfl) i 5 lt_i (by decide))) (cwV 2 hts gX3_deliver_X2_cell rfl rfl rfl (by decide +kernel) ⟨Nat.le_of_ble_eq_true rfl, Nat.le_of_ble_eq_true rfl⟩) (preSV (show va_K (dC, dI) vwCl [(k 2, .int)] s from hK.sub [2] rfl) (show va_P (dC, dI) vwCl (wR (o 3) (o 4) (k 2) 6 77 n f) s.heap from hP.sub [3, 4] rfl) (va_recv hK hP (ci := 2) (q0 := 3) rfl rfl)) rfl rfl hl.1 rfl (lv_room (Nat.le_of_ble_eq_true rfl)) dX3_deliver_72 ⟨Nat.le_of_ble_eq_true rfl, Nat.le_of_ble_eq_true rfl⟩) ?_
    refine lv_istore (lv' := [(7, .int (f (i * 6 + 5))), (6, .int (f (i * 6 + 4))), (5, .int (f (i * 6 + 3))), (4, .int (nI r)), (3, .int (nI c)), (2, .int (f (i * 6 + 0))), (0, .ref (o 0)), (1, .int (nI i))]) hx hb dX3_deliver_75 hl (by decide) rfl (fun ls hl => ?_)
    refine lv_iload_n hx hb dX3_deliver_77 rfl (lv_at hl 4 rfl) ?_
    refine goS (va_runS (rm := ({ frames := 0, cells := 0, slots := 0, locals := 0 } : Room)) (As := [.int (nI c)]) (rest := []) ⟨hx, hb, hml, hown, hts⟩ (MetS.at (k_X3_isClient l dC dI (nI c))) (va_cwS 1 hts gX3_deliver_X3_isClient rfl rfl rfl (by decide +kernel) ⟨Nat.le_of_ble_eq_true rfl, Nat.le_of_ble_eq_true rfl⟩) (preSS (hK.sub [] rfl) va_P0) rfl rfl hl.1 rfl (lv_room (Nat.le_of_ble_eq_true rfl)) dX3_deliver_78 ⟨Nat.le_of_ble_eq_true rfl, Nat.le_of_ble_eq_true rfl⟩) ?_
    refine lv_if_eq (tgt := 92) hx hb dX3_deliver_81 (by decide) (fun c_81 => ?_) (fun c_81 => ?_)
    · have c_81 := it_no c_81
      exact absurd (okI_nI lt_c (by decide)) c_81
    · have c_81 := it_yes c_81
      refine lv_iload hx hb dX3_deliver_84 (lv_at hl 3 rfl) ?_
      refine goS (va_runS (rm := ({ frames := 0, cells := 0, slots := 0, locals := 0 } : Room)) (As := [.int (nI r)]) (rest := []) ⟨hx, hb, hml, hown, hts⟩ (MetS.at (k_X3_isReplica l dC dI (nI r))) (va_cwS 1 hts gX3_deliver_X3_isReplica rfl rfl rfl (by decide +kernel) ⟨Nat.le_of_ble_eq_true rfl, Nat.le_of_ble_eq_true rfl⟩) (preSS (hK.sub [] rfl) va_P0) rfl rfl hl.1 rfl (lv_room (Nat.le_of_ble_eq_true rfl)) dX3_deliver_86 ⟨Nat.le_of_ble_eq_true rfl, Nat.le_of_ble_eq_true rfl⟩) ?_
      refine lv_if_ne (tgt := 94) hx hb dX3_deliver_89 (by decide) (fun c_89 => ?_) (fun c_89 => ?_)
      · have c_89 := it_yes c_89
        refine lv_aload_n hx hb dX3_deliver_94 rfl (lv_at hl 6 rfl) ?_
        refine va_get (D := (dC, dI)) (ci := 3) (v := .ref (o 3)) (C := RX3) (T := TX3) (N := 4) hx hb hts inX3_deliver_X3 hown hK hP (0) rfl rfl 2 (by decide) (hts _ lkX3_deliver_28) (fun _ h9 => h9) rfl dX3_deliver_95 ?_
        refine lv_iload_n hx hb dX3_deliver_98 rfl (lv_at hl 7 rfl) ?_
        refine goV (ws := (wX o k R C n f d g)) (ws' := (wX o k R C (n - 1) (va_cpy f f ((i + 1) * 6) (i * 6) (n * 6 - (i + 1) * 6)) d g)) (show qFit (wX o k R C n f d g) (wR (o 3) (o 4) (k 2) 6 77 n f) (wR (o 3) (o 4) (k 2) 6 77 (n - 1) (va_cpy f f ((i + 1) * 6) (i * 6) (n * 6 - (i + 1) * 6))) (wX o k R C (n - 1) (va_cpy f f ((i + 1) * 6) (i * 6) (n * 6 - (i + 1) * 6)) d g) from qFit2 hD (k1 := 3) (k2 := 4) rfl rfl (by decide) rfl) hP hD hS hA (va_runV (rm := ({ frames := 1, cells := 0, slots := 0, locals := 21 } : Room)) (As := [.int (nI i)]) (rest := []) ⟨hx, hb, hml, hown, hts⟩ (MetV.at (k_X2_remove l dC dI (o 3) (o 4) (k 2) 6 77 n f hn (Nat.le_of_ble_eq_true rfl) (Nat.le_of_ble_eq_true rfl) i lt_i) s.heap.size) (cwV 1 hts gX3_deliver_X2_remove rfl rfl rfl (by decide +kernel) ⟨Nat.le_of_ble_eq_true rfl, Nat.le_of_ble_eq_true rfl⟩) (preWV (show va_K (dC, dI) vwCl [(k 2, .int)] s from hK.sub [2] rfl) (show va_P (dC, dI) vwCl (wR (o 3) (o 4) (k 2) 6 77 n f) s.heap from hP.sub [3, 4] rfl) (show va_D A (wR (o 3) (o 4) (k 2) 6 77 n f) from hD.sub [3, 4] (by decide) rfl) (va_recv hK hP (ci := 2) (q0 := 3) rfl rfl)) rfl rfl hl.1 rfl (lv_room (Nat.le_of_ble_eq_true rfl)) dX3_deliver_99 ⟨Nat.le_of_ble_eq_true rfl, Nat.le_of_ble_eq_true rfl⟩) (fun H locs hP hD hS => ?_)
        have hP : va_P (dC, dI) vwCl (wX o k R C (n - 1) (drp f n i) d g) H := hP
        have hD : va_D A (wX o k R C (n - 1) (drp f n i) d g) := hD
        refine lv_aload_n hx hb dX3_deliver_102 rfl (lv_at hl 6 rfl) ?_
        refine va_get (D := (dC, dI)) (ci := 3) (v := .ref (o 3)) (C := RX3) (T := TX3) (N := 4) hx hb hts inX3_deliver_X3 hown hK hP (0) rfl rfl 2 (by decide) (hts _ lkX3_deliver_28) (fun _ h9 => h9) rfl dX3_deliver_103 ?_
        refine va_get (D := (dC, dI)) (ci := 2) (v := .int (nI (n - 1))) (C := RX2) (T := TX2) (N := 4) hx hb hts inX3_deliver_X2 hown hK hP (3) rfl rfl 3 (by decide) (hts _ lkX3_deliver_64) (fun _ h9 => h9) rfl dX3_deliver_106 ?_
        refine lv_istore (lv' := [(8, .int (nI (n - 1))), (7, .int (f (i * 6 + 5))), (6, .int (f (i * 6 + 4))), (5, .int (f (i * 6 + 3))), (4, .int (nI r)), (3, .int (nI c)), (2, .int (f (i * 6 + 0))), (0, .ref (o 0)), (1, .int (nI i))]) hx hb dX3_deliver_109 hl (by decide) rfl (fun ls hl => ?_)
        refine lv_iload_n hx hb dX3_deliver_111 rfl (lv_at hl 6 rfl) ?_
        by_cases h_0 : f (i * 6 + 0) = nI 0
        · have e_d : dlS (R, C, n, f, d, g) (nI i) = stAsk (R, C, n - 1, drp f n i, d, g) c r (f (i * 6 + 3)) := (dlS_at (R := R) (C := C) (d := d) (g := g) lt_i (by omega) lt_c lt_r e_c e_r).trans (dlM_0 h_0)
          refine qtop (y := nI 0) h_0 ?_
          refine lv_tableIn (off := 28) (tgt := 140) hx hb dX3_deliver_112 (by decide +kernel) (by decide +kernel) (by decide +kernel) (by decide) ?_
          refine lv_aload_n hx hb dX3_deliver_140 rfl (lv_at hl 7 rfl) ?_
          refine lv_iload_n hx hb dX3_deliver_141 rfl (lv_at hl 5 rfl) ?_
          refine lv_iload hx hb dX3_deliver_142 (lv_at hl 4 rfl) ?_
          refine lv_iload hx hb dX3_deliver_144 (lv_at hl 3 rfl) ?_
          refine goV (ws := (wX o k R C (n - 1) (drp f n i) d g)) (ws' := (wS o k (stAsk (R, C, n - 1, drp f n i, d, g) c r (f (i * 6 + 3))))) (qFit_all rfl) hP hD hS hA (va_runV (rm := ({ frames := 3, cells := 0, slots := 0, locals := 71 } : Room)) (As := [.int (nI c), .int (nI r), .int (f (i * 6 + 3))]) (rest := []) ⟨hx, hb, hml, hown, hts⟩ (MetV.at (k_X3_takeAsk l dC dI o k R C (n - 1) (drp f n i) d g (by omega) c r lt_c lt_r (f (i * 6 + 3))) H.size) (cwV 3 hts gX3_deliver_X3_takeAsk rfl rfl rfl (by decide +kernel) ⟨Nat.le_of_ble_eq_true rfl, Nat.le_of_ble_eq_true rfl⟩) (preWV hK hP hD (va_recv hK hP (ci := 3) (q0 := 0) rfl rfl)) rfl rfl hl.1 rfl (lv_room (Nat.le_of_ble_eq_true rfl)) dX3_deliver_146 ⟨Nat.le_of_ble_eq_true rfl, Nat.le_of_ble_eq_true rfl⟩) (fun H locs hP hD hS => ?_)
          refine lv_goto (tgt := 193) hx hb dX3_deliver_149 (by decide) ?_
          refine lv_aload_n hx hb dX3_deliver_193 rfl (lv_at hl 7 rfl) ?_
          refine va_get (D := (dC, dI)) (ci := 3) (v := .ref (o 3)) (C := RX3) (T := TX3) (N := 4) hx hb hts inX3_deliver_X3 hown hK hP (0) rfl rfl 2 (by decide) (hts _ lkX3_deliver_28) (fun _ h9 => h9) rfl dX3_deliver_194 ?_
          refine va_get (D := (dC, dI)) (ci := 2) (v := .int (nI ((stAsk (R, C, n - 1, drp f n i, d, g) c r (f (i * 6 + 3))).2.2.1))) (C := RX2) (T := TX2) (N := 4) hx hb hts inX3_deliver_X2 hown hK hP (3) rfl rfl 3 (by decide) (hts _ lkX3_deliver_64) (fun _ h9 => h9) rfl dX3_deliver_197 ?_
          refine lv_iload hx hb dX3_deliver_200 (lv_at hl 0 rfl) ?_
          refine lv_isub hx hb dX3_deliver_202 ?_
          exact retI hx hb hr hlk dX3_deliver_203 hS (by rw [e_d]; exact hP) (by rw [dlX, if_pos c_8, e_d])
        · by_cases h_1 : f (i * 6 + 0) = nI 1
          · have e_d : dlS (R, C, n, f, d, g) (nI i) = stTel (R, C, n - 1, drp f n i, d, g) c r (f (i * 6 + 3)) (f (i * 6 + 4)) (f (i * 6 + 5)) := (dlS_at (R := R) (C := C) (d := d) (g := g) lt_i (by omega) lt_c lt_r e_c e_r).trans (dlM_1 h_1)
            refine qtop (y := nI 1) h_1 ?_
            refine lv_tableIn (off := 40) (tgt := 152) hx hb dX3_deliver_112 (by decide +kernel) (by decide +kernel) (by decide +kernel) (by decide) ?_
            refine lv_aload_n hx hb dX3_deliver_152 rfl (lv_at hl 7 rfl) ?_
            refine lv_iload_n hx hb dX3_deliver_153 rfl (lv_at hl 5 rfl) ?_
            refine lv_iload hx hb dX3_deliver_154 (lv_at hl 4 rfl) ?_
            refine lv_iload hx hb dX3_deliver_156 (lv_at hl 3 rfl) ?_
            refine lv_iload hx hb dX3_deliver_158 (lv_at hl 2 rfl) ?_
            refine lv_iload hx hb dX3_deliver_160 (lv_at hl 1 rfl) ?_
            refine goV (ws := (wX o k R C (n - 1) (drp f n i) d g)) (ws' := (wS o k (stTel (R, C, n - 1, drp f n i, d, g) c r (f (i * 6 + 3)) (f (i * 6 + 4)) (f (i * 6 + 5))))) (qFit_all rfl) hP hD hS hA (va_runV (rm := ({ frames := 5, cells := 0, slots := 0, locals := 119 } : Room)) (As := [.int (nI c), .int (nI r), .int (f (i * 6 + 3)), .int (f (i * 6 + 4)), .int (f (i * 6 + 5))]) (rest := []) ⟨hx, hb, hml, hown, hts⟩ (MetV.at (k_X3_takeTell l dC dI o k R C (n - 1) (drp f n i) d g c r lt_c lt_r a lt_a e_a (fun q => by have := hroom c lt_c q; omega) (f (i * 6 + 3)) (f (i * 6 + 4)) (f (i * 6 + 5))) H.size) (cwV 5 hts gX3_deliver_X3_takeTell rfl rfl rfl (by decide +kernel) ⟨Nat.le_of_ble_eq_true rfl, Nat.le_of_ble_eq_true rfl⟩) (preWV hK hP hD (va_recv hK hP (ci := 3) (q0 := 0) rfl rfl)) rfl rfl hl.1 rfl (lv_room (Nat.le_of_ble_eq_true rfl)) dX3_deliver_162 ⟨Nat.le_of_ble_eq_true rfl, Nat.le_of_ble_eq_true rfl⟩) (fun H locs hP hD hS => ?_)
            refine lv_goto (tgt := 193) hx hb dX3_deliver_165 (by decide) ?_
            refine lv_aload_n hx hb dX3_deliver_193 rfl (lv_at hl 7 rfl) ?_
            refine va_get (D := (dC, dI)) (ci := 3) (v := .ref (o 3)) (C := RX3) (T := TX3) (N := 4) hx hb hts inX3_deliver_X3 hown hK hP (0) rfl rfl 2 (by decide) (hts _ lkX3_deliver_28) (fun _ h9 => h9) rfl dX3_deliver_194 ?_
            refine va_get (D := (dC, dI)) (ci := 2) (v := .int (nI ((stTel (R, C, n - 1, drp f n i, d, g) c r (f (i * 6 + 3)) (f (i * 6 + 4)) (f (i * 6 + 5))).2.2.1))) (C := RX2) (T := TX2) (N := 4) hx hb hts inX3_deliver_X2 hown hK hP (3) rfl rfl 3 (by decide) (hts _ lkX3_deliver_64) (fun _ h9 => h9) rfl dX3_deliver_197 ?_
            refine lv_iload hx hb dX3_deliver_200 (lv_at hl 0 rfl) ?_
            refine lv_isub hx hb dX3_deliver_202 ?_
            exact retI hx hb hr hlk dX3_deliver_203 hS (by rw [e_d]; exact hP) (by rw [dlX, if_pos c_8, e_d])
          · by_cases h_2 : f (i * 6 + 0) = nI 2
            · have e_d : dlS (R, C, n, f, d, g) (nI i) = stStr (R, C, n - 1, drp f n i, d, g) c r (f (i * 6 + 3)) (f (i * 6 + 4)) (f (i * 6 + 5)) := (dlS_at (R := R) (C := C) (d := d) (g := g) lt_i (by omega) lt_c lt_r e_c e_r).trans (dlM_2 h_2)
              refine qtop (y := nI 2) h_2 ?_
              refine lv_tableIn (off := 56) (tgt := 168) hx hb dX3_deliver_112 (by decide +kernel) (by decide +kernel) (by decide +kernel) (by decide) ?_
              refine lv_aload_n hx hb dX3_deliver_168 rfl (lv_at hl 7 rfl) ?_
              refine lv_iload_n hx hb dX3_deliver_169 rfl (lv_at hl 5 rfl) ?_
              refine lv_iload hx hb dX3_deliver_170 (lv_at hl 4 rfl) ?_
              refine lv_iload hx hb dX3_deliver_172 (lv_at hl 3 rfl) ?_
              refine lv_iload hx hb dX3_deliver_174 (lv_at hl 2 rfl) ?_
              refine lv_iload hx hb dX3_deliver_176 (lv_at hl 1 rfl) ?_
              refine goV (ws := (wX o k R C (n - 1) (drp f n i) d g)) (ws' := (wS o k (stStr (R, C, n - 1, drp f n i, d, g) c r (f (i * 6 + 3)) (f (i * 6 + 4)) (f (i * 6 + 5))))) (qFit_all rfl) hP hD hS hA (va_runV (rm := ({ frames := 3, cells := 0, slots := 0, locals := 71 } : Room)) (As := [.int (nI c), .int (nI r), .int (f (i * 6 + 3)), .int (f (i * 6 + 4)), .int (f (i * 6 + 5))]) (rest := []) ⟨hx, hb, hml, hown, hts⟩ (MetV.at (k_X3_takeStore l dC dI o k R C (n - 1) (drp f n i) d g (by omega) c r lt_c lt_r (f (i * 6 + 3)) (f (i * 6 + 4)) (f (i * 6 + 5))) H.size) (cwV 5 hts gX3_deliver_X3_takeStore rfl rfl rfl (by decide +kernel) ⟨Nat.le_of_ble_eq_true rfl, Nat.le_of_ble_eq_true rfl⟩) (preWV hK hP hD (va_recv hK hP (ci := 3) (q0 := 0) rfl rfl)) rfl rfl hl.1 rfl (lv_room (Nat.le_of_ble_eq_true rfl)) dX3_deliver_178 ⟨Nat.le_of_ble_eq_true rfl, Nat.le_of_ble_eq_true rfl⟩) (fun H locs hP hD hS => ?_)
              refine lv_goto (tgt := 193) hx hb dX3_deliver_181 (by decide) ?_
              refine lv_aload_n hx hb dX3_deliver_193 rfl (lv_at hl 7 rfl) ?_
              refine va_get (D := (dC, dI)) (ci := 3) (v := .ref (o 3)) (C := RX3) (T := TX3) (N := 4) hx hb hts inX3_deliver_X3 hown hK hP (0) rfl rfl 2 (by decide) (hts _ lkX3_deliver_28) (fun _ h9 => h9) rfl dX3_deliver_194 ?_
              refine va_get (D := (dC, dI)) (ci := 2) (v := .int (nI ((stStr (R, C, n - 1, drp f n i, d, g) c r (f (i * 6 + 3)) (f (i * 6 + 4)) (f (i * 6 + 5))).2.2.1))) (C := RX2) (T := TX2) (N := 4) hx hb hts inX3_deliver_X2 hown hK hP (3) rfl rfl 3 (by decide) (hts _ lkX3_deliver_64) (fun _ h9 => h9) rfl dX3_deliver_197 ?_
              refine lv_iload hx hb dX3_deliver_200 (lv_at hl 0 rfl) ?_
              refine lv_isub hx hb dX3_deliver_202 ?_
              exact retI hx hb hr hlk dX3_deliver_203 hS (by rw [e_d]; exact hP) (by rw [dlX, if_pos c_8, e_d])
            · have e_d : dlS (R, C, n, f, d, g) (nI i) = stStd (R, C, n - 1, drp f n i, d, g) c r (f (i * 6 + 3)) := (dlS_at (R := R) (C := C) (d := d) (g := g) lt_i (by omega) lt_c lt_r e_c e_r).trans (dlM_3 h_0 h_1 h_2)
              refine lv_tableOut (tgt := 184) hx hb dX3_deliver_112 (tb_out h_0 h_1 h_2) (by decide) ?_
              refine lv_aload_n hx hb dX3_deliver_184 rfl (lv_at hl 7 rfl) ?_
              refine lv_iload_n hx hb dX3_deliver_185 rfl (lv_at hl 5 rfl) ?_
              refine lv_iload hx hb dX3_deliver_186 (lv_at hl 4 rfl) ?_
              refine lv_iload hx hb dX3_deliver_188 (lv_at hl 3 rfl) ?_
              refine goV (ws := (wX o k R C (n - 1) (drp f n i) d g)) (ws' := (wS o k (stStd (R, C, n - 1, drp f n i, d, g) c r (f (i * 6 + 3))))) (qFit_all rfl) hP hD hS hA (va_runV (rm := ({ frames := 3, cells := 0, slots := 0, locals := 67 } : Room)) (As := [.int (nI c), .int (nI r), .int (f (i * 6 + 3))]) (rest := []) ⟨hx, hb, hml, hown, hts⟩ (MetV.at (k_X3_takeStored l dC dI o k R C (n - 1) (drp f n i) d g c r lt_c lt_r a lt_a e_a (fun q h => hdn c lt_c q (by rw [e_a, bts_nI lt_a]; exact h)) (f (i * 6 + 3))) H.size) (cwV 3 hts gX3_deliver_X3_takeStored rfl rfl rfl (by decide +kernel) ⟨Nat.le_of_ble_eq_true rfl, Nat.le_of_ble_eq_true rfl⟩) (preWV hK hP hD (va_recv hK hP (ci := 3) (q0 := 0) rfl rfl)) rfl rfl hl.1 rfl (lv_room (Nat.le_of_ble_eq_true rfl)) dX3_deliver_190 ⟨Nat.le_of_ble_eq_true rfl, Nat.le_of_ble_eq_true rfl⟩) (fun H locs hP hD hS => ?_)
              refine lv_aload_n hx hb dX3_deliver_193 rfl (lv_at hl 7 rfl) ?_
              refine va_get (D := (dC, dI)) (ci := 3) (v := .ref (o 3)) (C := RX3) (T := TX3) (N := 4) hx hb hts inX3_deliver_X3 hown hK hP (0) rfl rfl 2 (by decide) (hts _ lkX3_deliver_28) (fun _ h9 => h9) rfl dX3_deliver_194 ?_
              refine va_get (D := (dC, dI)) (ci := 2) (v := .int (nI ((stStd (R, C, n - 1, drp f n i, d, g) c r (f (i * 6 + 3))).2.2.1))) (C := RX2) (T := TX2) (N := 4) hx hb hts inX3_deliver_X2 hown hK hP (3) rfl rfl 3 (by decide) (hts _ lkX3_deliver_64) (fun _ h9 => h9) rfl dX3_deliver_197 ?_
              refine lv_iload hx hb dX3_deliver_200 (lv_at hl 0 rfl) ?_
              refine lv_isub hx hb dX3_deliver_202 ?_
              exact retI hx hb hr hlk dX3_deliver_203 hS (by rw [e_d]; exact hP) (by rw [dlX, if_pos c_8, e_d])
      · have c_89 := it_no c_89
        exact absurd (okI_nI lt_r (by decide)) c_89
  · have c_8 := it_no c_8
    refine lv_iconst (v := (-1)) hx hb dX3_deliver_11 (by decide) ?_
    exact retI hx hb hr hlk dX3_deliver_12 hS (by rw [dlS, if_neg c_8]; exact hP) (by rw [dlX, if_neg c_8])
theorem lkX3_lose_28 : Cond.fieldLink RX3 28 "QuorumRegister" "pool" "LQuorumRegister$Rows;" ∈ wsX3_lose := by decide +kernel
theorem inX3_lose_X3 : ∀ w ∈ wsX30, w ∈ wsX3_lose := by decide +kernel
set_option maxHeartbeats 4000000 in
set_option maxRecDepth 100000 in
/-- lose(i) -/
theorem k_X3_lose (l : Launch) (dC : Nat → ClassId) (dI : Nat → Nat → Nat) (o : Nat → Nat) (k : Nat → ClassId) (R C : Nat → Nat → Int32) (n : Nat) (f : Nat → Int32) (d : Nat) (g : Nat → Int32) (hn : n ≤ 77) (p0 : Int32) : MetI l yX3_lose wsX3_lose ({ frames := 2, cells := 0, slots := 0, locals := 43 } : Room) (dC, dI) vwCl (wX o k R C n f d g) (tyX k) [.ref (o 0), .int p0] (lsX (R, C, n, f, d, g) p0) (wS o k (lsS (R, C, n, f, d, g) p0)) := by
  refine MetI.of (cc := cX3_lose) (maxL := 2) (ret := (some .boolean)) (by decide) rfl (Nat.le_of_ble_eq_true rfl) rfl ?_
  intro p e s m below meth cd ls A hx hb hr hlk hml hown hts hK hP hD hS hA hl
  have hl : lv_has ls 2 [(0, .ref (o 0)), (1, .int p0)] := hl
  refine lv_aload_n hx hb dX3_lose_0 rfl (lv_at hl 0 rfl) ?_
  refine va_get (D := (dC, dI)) (ci := 3) (v := .ref (o 3)) (C := RX3) (T := TX3) (N := 4) hx hb hts inX3_lose_X3 hown hK hP (0) rfl rfl 2 (by decide) (hts _ lkX3_lose_28) (fun _ h9 => h9) rfl dX3_lose_1 ?_
  refine lv_iload_n hx hb dX3_lose_4 rfl (lv_at hl 1 rfl) ?_
  refine goS (va_runV (rm := ({ frames := 0, cells := 0, slots := 0, locals := 0 } : Room)) (As := [.int p0]) (rest := []) ⟨hx, hb, hml, hown, hts⟩ (MetS.at (k_X2_has l dC dI (o 3) (o 4) (k 2) 6 77 n f p0)) (cwV 1 hts gX3_lose_X2_has rfl rfl rfl (by decide +kernel) ⟨Nat.le_of_ble_eq_true rfl, Nat.le_of_ble_eq_true rfl⟩) (preSV (show va_K (dC, dI) vwCl [(k 2, .int)] s from hK.sub [2] rfl) (show va_P (dC, dI) vwCl (wR (o 3) (o 4) (k 2) 6 77 n f) s.heap from hP.sub [3, 4] rfl) (va_recv hK hP (ci := 2) (q0 := 3) rfl rfl)) rfl rfl hl.1 rfl (lv_room (Nat.le_of_ble_eq_true rfl)) dX3_lose_5 ⟨Nat.le_of_ble_eq_true rfl, Nat.le_of_ble_eq_true rfl⟩) ?_
  refine lv_if_ne (tgt := 13) hx hb dX3_lose_8 (by decide) (fun c_8 => ?_) (fun c_8 => ?_)
  · have c_8 := it_yes c_8
    obtain ⟨i, lt_i, rfl⟩ := okI_of c_8 (by omega)
    have e_i : (nI i).toNatClampNeg = i := nI_clamp (by omega)
    refine lv_aload_n hx hb dX3_lose_13 rfl (lv_at hl 0 rfl) ?_
    refine va_get (D := (dC, dI)) (ci := 3) (v := .ref (o 3)) (C := RX3) (T := TX3) (N := 4) hx hb hts inX3_lose_X3 hown hK hP (0) rfl rfl 2 (by decide) (hts _ lkX3_lose_28) (fun _ h9 => h9) rfl dX3_lose_14 ?_
    refine lv_iload_n hx hb dX3_lose_17 rfl (lv_at hl 1 rfl) ?_
    refine goV (ws := (wX o k R C n f d g)) (ws' := (wX o k R C (n - 1) (va_cpy f f ((i + 1) * 6) (i * 6) (n * 6 - (i + 1) * 6)) d g)) (show qFit (wX o k R C n f d g) (wR (o 3) (o 4) (k 2) 6 77 n f) (wR (o 3) (o 4) (k 2) 6 77 (n - 1) (va_cpy f f ((i + 1) * 6) (i * 6) (n * 6 - (i + 1) * 6))) (wX o k R C (n - 1) (va_cpy f f ((i + 1) * 6) (i * 6) (n * 6 - (i + 1) * 6)) d g) from qFit2 hD (k1 := 3) (k2 := 4) rfl rfl (by decide) rfl) hP hD hS hA (va_runV (rm := ({ frames := 1, cells := 0, slots := 0, locals := 21 } : Room)) (As := [.int (nI i)]) (rest := []) ⟨hx, hb, hml, hown, hts⟩ (MetV.at (k_X2_remove l dC dI (o 3) (o 4) (k 2) 6 77 n f hn (Nat.le_of_ble_eq_true rfl) (Nat.le_of_ble_eq_true rfl) i lt_i) s.heap.size) (cwV 1 hts gX3_lose_X2_remove rfl rfl rfl (by decide +kernel) ⟨Nat.le_of_ble_eq_true rfl, Nat.le_of_ble_eq_true rfl⟩) (preWV (show va_K (dC, dI) vwCl [(k 2, .int)] s from hK.sub [2] rfl) (show va_P (dC, dI) vwCl (wR (o 3) (o 4) (k 2) 6 77 n f) s.heap from hP.sub [3, 4] rfl) (show va_D A (wR (o 3) (o 4) (k 2) 6 77 n f) from hD.sub [3, 4] (by decide) rfl) (va_recv hK hP (ci := 2) (q0 := 3) rfl rfl)) rfl rfl hl.1 rfl (lv_room (Nat.le_of_ble_eq_true rfl)) dX3_lose_18 ⟨Nat.le_of_ble_eq_true rfl, Nat.le_of_ble_eq_true rfl⟩) (fun H locs hP hD hS => ?_)
    refine lv_iconst (v := nI 1) hx hb dX3_lose_21 (by decide) ?_
    exact retIz hx hb hr hlk dX3_lose_22 rfl hS (by rw [lsS, if_pos c_8, e_i]; exact hP) (by rw [lsX, if_pos c_8]; rfl)
  · have c_8 := it_no c_8
    refine lv_iconst (v := nI 0) hx hb dX3_lose_11 (by decide) ?_
    exact retIz hx hb hr hlk dX3_lose_12 rfl hS (by rw [lsS, if_neg c_8]; exact hP) (by rw [lsX, if_neg c_8]; rfl)
theorem lkX3_repeat_28 : Cond.fieldLink RX3 28 "QuorumRegister" "pool" "LQuorumRegister$Rows;" ∈ wsX3_repeat := by decide +kernel
theorem inX3_repeat_X3 : ∀ w ∈ wsX30, w ∈ wsX3_repeat := by decide +kernel
set_option maxHeartbeats 4000000 in
set_option maxRecDepth 100000 in
/-- repeat(i) -/
theorem k_X3_repeat (l : Launch) (dC : Nat → ClassId) (dI : Nat → Nat → Nat) (o : Nat → Nat) (k : Nat → ClassId) (R C : Nat → Nat → Int32) (n : Nat) (f : Nat → Int32) (d : Nat) (g : Nat → Int32) (hn : n ≤ 77) (p0 : Int32) : MetI l yX3_repeat wsX3_repeat ({ frames := 2, cells := 0, slots := 0, locals := 43 } : Room) (dC, dI) vwCl (wX o k R C n f d g) (tyX k) [.ref (o 0), .int p0] (rpX (R, C, n, f, d, g) p0) (wS o k (rpS (R, C, n, f, d, g) p0)) := by
  refine MetI.of (cc := cX3_repeat) (maxL := 2) (ret := (some .boolean)) (by decide) rfl (Nat.le_of_ble_eq_true rfl) rfl ?_
  intro p e s m below meth cd ls A hx hb hr hlk hml hown hts hK hP hD hS hA hl
  have hl : lv_has ls 2 [(0, .ref (o 0)), (1, .int p0)] := hl
  refine lv_aload_n hx hb dX3_repeat_0 rfl (lv_at hl 0 rfl) ?_
  refine va_get (D := (dC, dI)) (ci := 3) (v := .ref (o 3)) (C := RX3) (T := TX3) (N := 4) hx hb hts inX3_repeat_X3 hown hK hP (0) rfl rfl 2 (by decide) (hts _ lkX3_repeat_28) (fun _ h9 => h9) rfl dX3_repeat_1 ?_
  refine lv_iload_n hx hb dX3_repeat_4 rfl (lv_at hl 1 rfl) ?_
  refine goS (va_runV (rm := ({ frames := 0, cells := 0, slots := 0, locals := 0 } : Room)) (As := [.int p0]) (rest := []) ⟨hx, hb, hml, hown, hts⟩ (MetS.at (k_X2_has l dC dI (o 3) (o 4) (k 2) 6 77 n f p0)) (cwV 1 hts gX3_repeat_X2_has rfl rfl rfl (by decide +kernel) ⟨Nat.le_of_ble_eq_true rfl, Nat.le_of_ble_eq_true rfl⟩) (preSV (show va_K (dC, dI) vwCl [(k 2, .int)] s from hK.sub [2] rfl) (show va_P (dC, dI) vwCl (wR (o 3) (o 4) (k 2) 6 77 n f) s.heap from hP.sub [3, 4] rfl) (va_recv hK hP (ci := 2) (q0 := 3) rfl rfl)) rfl rfl hl.1 rfl (lv_room (Nat.le_of_ble_eq_true rfl)) dX3_repeat_5 ⟨Nat.le_of_ble_eq_true rfl, Nat.le_of_ble_eq_true rfl⟩) ?_
  refine lv_if_eq (tgt := 18) hx hb dX3_repeat_8 (by decide) (fun c_8 => ?_) (fun c_8 => ?_)
  · have c_8 := it_no c_8
    refine lv_iconst (v := nI 0) hx hb dX3_repeat_18 (by decide) ?_
    exact retIz hx hb hr hlk dX3_repeat_19 rfl hS (by rw [rpS, if_neg (fun q => c_8 q.1)]; exact hP) (by rw [rpX, if_neg (fun q => c_8 q.1)]; rfl)
  · have c_8 := it_yes c_8
    refine lv_aload_n hx hb dX3_repeat_11 rfl (lv_at hl 0 rfl) ?_
    refine goS (va_runV (rm := ({ frames := 0, cells := 0, slots := 0, locals := 0 } : Room)) (As := []) (rest := []) ⟨hx, hb, hml, hown, hts⟩ (MetS.at (k_X3_isCrowded l dC dI o k R C n f d g hn)) (cwV 0 hts gX3_repeat_X3_isCrowded rfl rfl rfl (by decide +kernel) ⟨Nat.le_of_ble_eq_true rfl, Nat.le_of_ble_eq_true rfl⟩) (preSV hK hP (va_recv hK hP (ci := 3) (q0 := 0) rfl rfl)) rfl rfl hl.1 rfl (lv_room (Nat.le_of_ble_eq_true rfl)) dX3_repeat_12 ⟨Nat.le_of_ble_eq_true rfl, Nat.le_of_ble_eq_true rfl⟩) ?_
    refine lv_if_eq (tgt := 20) hx hb dX3_repeat_15 (by decide) (fun c_15 => ?_) (fun c_15 => ?_)
    · have c_15 := it_no c_15
      obtain ⟨i, lt_i, rfl⟩ := okI_of c_8 (by omega)
      have e_i : (nI i).toNatClampNeg = i := nI_clamp (by omega)
      refine lv_aload_n hx hb dX3_repeat_20 rfl (lv_at hl 0 rfl) ?_
      refine va_get (D := (dC, dI)) (ci := 3) (v := .ref (o 3)) (C := RX3) (T := TX3) (N := 4) hx hb hts inX3_repeat_X3 hown hK hP (0) rfl rfl 2 (by decide) (hts _ lkX3_repeat_28) (fun _ h9 => h9) rfl dX3_repeat_21 ?_
      refine lv_iload_n hx hb dX3_repeat_24 rfl (lv_at hl 1 rfl) ?_
      refine goV (ws := (wX o k R C n f d g)) (ws' := (wX o k R C (n + 1) (va_cpy f f (i * 6) (n * 6) 6) d g)) (show qFit (wX o k R C n f d g) (wR (o 3) (o 4) (k 2) 6 77 n f) (wR (o 3) (o 4) (k 2) 6 77 (n + 1) (va_cpy f f (i * 6) (n * 6) 6)) (wX o k R C (n + 1) (va_cpy f f (i * 6) (n * 6) 6) d g) from qFit2 hD (k1 := 3) (k2 := 4) rfl rfl (by decide) rfl) hP hD hS hA (va_runV (rm := ({ frames := 1, cells := 0, slots := 0, locals := 21 } : Room)) (As := [.int (nI i)]) (rest := []) ⟨hx, hb, hml, hown, hts⟩ (MetV.at (k_X2_addCopy l dC dI (o 3) (o 4) (k 2) 6 77 n f (by omega) (Nat.le_of_ble_eq_true rfl) (Nat.le_of_ble_eq_true rfl) i lt_i) s.heap.size) (cwV 1 hts gX3_repeat_X2_addCopy rfl rfl rfl (by decide +kernel) ⟨Nat.le_of_ble_eq_true rfl, Nat.le_of_ble_eq_true rfl⟩) (preWV (show va_K (dC, dI) vwCl [(k 2, .int)] s from hK.sub [2] rfl) (show va_P (dC, dI) vwCl (wR (o 3) (o 4) (k 2) 6 77 n f) s.heap from hP.sub [3, 4] rfl) (show va_D A (wR (o 3) (o 4) (k 2) 6 77 n f) from hD.sub [3, 4] (by decide) rfl) (va_recv hK hP (ci := 2) (q0 := 3) rfl rfl)) rfl rfl hl.1 rfl (lv_room (Nat.le_of_ble_eq_true rfl)) dX3_repeat_25 ⟨Nat.le_of_ble_eq_true rfl, Nat.le_of_ble_eq_true rfl⟩) (fun H locs hP hD hS => ?_)
      refine lv_iconst (v := nI 1) hx hb dX3_repeat_28 (by decide) ?_
      exact retIz hx hb hr hlk dX3_repeat_29 rfl hS (by rw [rpS, if_pos ⟨c_8, c_15⟩, e_i]; exact hP) (by rw [rpX, if_pos ⟨c_8, c_15⟩]; rfl)
    · have c_15 := it_yes c_15
      refine lv_iconst (v := nI 0) hx hb dX3_repeat_18 (by decide) ?_
      exact retIz hx hb hr hlk dX3_repeat_19 rfl hS (by rw [rpS, if_neg (fun q => q.2 c_15)]; exact hP) (by rw [rpX, if_neg (fun q => q.2 c_15)]; rfl)
theorem lkX3_countFailed_11 : Cond.fieldLink RX3 11 "QuorumRegister" "replicas" "[LQuorumRegister$Replica;" ∈ wsX3_countFailed := by decide +kernel
theorem inX3_countFailed_X3 : ∀ w ∈ wsX30, w ∈ wsX3_countFailed := by decide +kernel
theorem lkX3_countFailed_88 : Cond.fieldLink RX3 88 "QuorumRegister$Replica" "failed" "Z" ∈ wsX3_countFailed := by decide +kernel
theorem inX3_countFailed_X1 : ∀ w ∈ wsX10, w ∈ wsX3_countFailed := by decide +kernel
set_option maxHeartbeats 4000000 in
set_option maxRecDepth 100000 in
/-- countFailed() -/
theorem k_X3_countFailed (l : Launch) (dC : Nat → ClassId) (dI : Nat → Nat → Nat) (o : Nat → Nat) (k : Nat → ClassId) (R C : Nat → Nat → Int32) (n : Nat) (f : Nat → Int32) (d : Nat) (g : Nat → Int32) : MetS l yX3_countFailed wsX3_countFailed ({ frames := 0, cells := 0, slots := 0, locals := 0 } : Room) (dC, dI) vwCl (wX o k R C n f d g) (tyX k) [.ref (o 0)] (nI (cnF R 5)) := by
  refine MetS.of (cc := cX3_countFailed) (maxL := 3) (ret := (some .int)) (by decide) rfl (Nat.le_of_ble_eq_true rfl) rfl ?_
  intro p e s m below meth cd ls hx hb hr hlk hml hown hts hK hP hl
  have hl : lv_has ls 3 [(0, .ref (o 0))] := hl
  refine lv_iconst (v := nI 0) hx hb dX3_countFailed_0 (by decide) ?_
  refine lv_istore_n (lv' := [(1, .int (nI 0)), (0, .ref (o 0))]) hx hb dX3_countFailed_1 rfl hl (by decide) rfl (fun ls hl => ?_)
  refine lv_iconst (v := nI 0) hx hb dX3_countFailed_2 (by decide) ?_
  refine lv_istore_n (lv' := [(2, .int (nI 0)), (1, .int (nI 0)), (0, .ref (o 0))]) hx hb dX3_countFailed_3 rfl hl (by decide) rfl (fun ls hl => ?_)
  have loop : ∀ t j : Nat, j + t = 5 → ∀ ls : Array Slot, lv_has ls 3 [(0, .ref (o 0)), (1, .int (nI (cnF R j))), (2, .int (nI j))] → W p l e ({ frames := 0, cells := 0, slots := 0, locals := 0 } : Room) s m [Value.ref (o 0)].toArray below meth cd s.heap [] 0 0 (MQ below (vp_Si (fun r => r = nI (cnF R 5))) [Value.ref (o 0)].toArray s 0 0 (fun _ => False)) (F0 m 4 ls []) := by
    intro t
    induction t with
    | zero =>
      intro j hj ls hl
      have hj : j = 5 := by omega
      subst hj
      refine lv_iload_n hx hb dX3_countFailed_4 rfl (lv_at hl 2 rfl) ?_
      refine lv_iconst (v := nI 5) hx hb dX3_countFailed_5 (by decide) ?_
      refine lv_icmp_ge (tgt := 30) hx hb dX3_countFailed_6 (by decide) (fun _ => ?_) (fun c9 => absurd (by decide +kernel) c9)
      refine lv_iload_n hx hb dX3_countFailed_30 rfl (lv_at hl 1 rfl) ?_
      exact retS hx hb hr hlk dX3_countFailed_31 rfl
    | succ t ih =>
      intro j hj ls hl
      have lt_j : j < 5 := by omega
      refine lv_iload_n hx hb dX3_countFailed_4 rfl (lv_at hl 2 rfl) ?_
      refine lv_iconst (v := nI 5) hx hb dX3_countFailed_5 (by decide) ?_
      refine lv_icmp_ge (tgt := 30) hx hb dX3_countFailed_6 (by decide) (fun c_6 => ?_) (fun c_6 => ?_)
      · exact absurd c_6 (nI_ge lt_j (by decide))
      · refine lv_aload_n hx hb dX3_countFailed_9 rfl (lv_at hl 0 rfl) ?_
        refine va_get (D := (dC, dI)) (ci := 3) (v := .ref (o 1)) (C := RX3) (T := TX3) (N := 4) hx hb hts inX3_countFailed_X3 hown hK hP (0) rfl rfl 0 (by decide) (hts _ lkX3_countFailed_11) (fun _ h9 => h9) rfl dX3_countFailed_10 ?_
        refine lv_iload_n hx hb dX3_countFailed_13 rfl (lv_at hl 2 rfl) ?_
        refine q_aald hx hb hK hP (1) 0 (j := j) rfl rfl lt_j (Nat.le_of_ble_eq_true rfl) dX3_countFailed_14 ?_
        refine va_get (D := (dC, dI)) (ci := 1) (v := .int (R j 2)) (C := RX1) (T := TX1) (N := 3) hx hb hts inX3_countFailed_X1 hown hK hP (7 + j) (wX_R lt_j) rfl 2 (by decide) (hts _ lkX3_countFailed_88) (fun _ h9 => h9) rfl dX3_countFailed_15 ?_
        refine lv_if_eq (tgt := 24) hx hb dX3_countFailed_18 (by decide) (fun c_18 => ?_) (fun c_18 => ?_)
        · refine lv_iinc (v := nI (j + 1)) (lv' := [(2, .int (nI (j + 1))), (0, .ref (o 0)), (1, .int (nI (cnF R j)))]) hx hb dX3_countFailed_24 hl (k := 2) rfl (nI_add _ 1) (by decide) rfl (fun ls hl => ?_)
          refine lv_goto (tgt := 4) hx hb dX3_countFailed_27 (by decide) ?_
          have e_c : cnF R (j + 1) = cnF R j := by rw [cnF, if_pos c_18]; rfl
          rw [← e_c] at hl
          exact ih (j + 1) (by omega) ls (lv_sub hl [1, 2, 0] rfl)
        · refine lv_iinc (v := nI ((cnF R j) + 1)) (lv' := [(1, .int (nI ((cnF R j) + 1))), (0, .ref (o 0)), (2, .int (nI j))]) hx hb dX3_countFailed_21 hl (k := 1) rfl (nI_add _ 1) (by decide) rfl (fun ls hl => ?_)
          refine lv_iinc (v := nI (j + 1)) (lv' := [(2, .int (nI (j + 1))), (1, .int (nI ((cnF R j) + 1))), (0, .ref (o 0))]) hx hb dX3_countFailed_24 hl (k := 2) rfl (nI_add _ 1) (by decide) rfl (fun ls hl => ?_)
          refine lv_goto (tgt := 4) hx hb dX3_countFailed_27 (by decide) ?_
          have e_c : cnF R (j + 1) = (cnF R j) + 1 := by rw [cnF, if_neg c_18]
          rw [← e_c] at hl
          exact ih (j + 1) (by omega) ls (lv_sub hl [2, 1, 0] rfl)
  exact loop 5 0 rfl ls (lv_sub hl [2, 1, 0] rfl)
theorem cnF_le (R : Nat → Nat → Int32) : ∀ j, cnF R j ≤ j := by
  intro j
  induction j with
  | zero => exact Nat.le_refl 0
  | succ j ih => unfold cnF; split <;> omega
theorem lkX3_fail_11 : Cond.fieldLink RX3 11 "QuorumRegister" "replicas" "[LQuorumRegister$Replica;" ∈ wsX3_fail := by decide +kernel
theorem inX3_fail_X3 : ∀ w ∈ wsX30, w ∈ wsX3_fail := by decide +kernel
theorem lkX3_fail_88 : Cond.fieldLink RX3 88 "QuorumRegister$Replica" "failed" "Z" ∈ wsX3_fail := by decide +kernel
theorem inX3_fail_X1 : ∀ w ∈ wsX10, w ∈ wsX3_fail := by decide +kernel
set_option maxHeartbeats 4000000 in
set_option maxRecDepth 100000 in
/-- fail(r) -/
theorem k_X3_fail (l : Launch) (dC : Nat → ClassId) (dI : Nat → Nat → Nat) (o : Nat → Nat) (k : Nat → ClassId) (R C : Nat → Nat → Int32) (n : Nat) (f : Nat → Int32) (d : Nat) (g : Nat → Int32) (p0 : Int32) : MetI l yX3_fail wsX3_fail ({ frames := 1, cells := 0, slots := 0, locals := 22 } : Room) (dC, dI) vwCl (wX o k R C n f d g) (tyX k) [.ref (o 0), .int p0] (flX (R, C, n, f, d, g) p0) (wS o k (flS (R, C, n, f, d, g) p0)) := by
  refine MetI.of (cc := cX3_fail) (maxL := 2) (ret := (some .boolean)) (by decide) rfl (Nat.le_of_ble_eq_true rfl) rfl ?_
  intro p e s m below meth cd ls A hx hb hr hlk hml hown hts hK hP hD hS hA hl
  have hl : lv_has ls 2 [(0, .ref (o 0)), (1, .int p0)] := hl
  refine lv_iload_n hx hb dX3_fail_0 rfl (lv_at hl 1 rfl) ?_
  refine goS (va_runS (rm := ({ frames := 0, cells := 0, slots := 0, locals := 0 } : Room)) (As := [.int p0]) (rest := []) ⟨hx, hb, hml, hown, hts⟩ (MetS.at (k_X3_isReplica l dC dI p0)) (va_cwS 1 hts gX3_fail_X3_isReplica rfl rfl rfl (by decide +kernel) ⟨Nat.le_of_ble_eq_true rfl, Nat.le_of_ble_eq_true rfl⟩) (preSS (hK.sub [] rfl) va_P0) rfl rfl hl.1 rfl (lv_room (Nat.le_of_ble_eq_true rfl)) dX3_fail_1 ⟨Nat.le_of_ble_eq_true rfl, Nat.le_of_ble_eq_true rfl⟩) ?_
  refine lv_if_eq (tgt := 27) hx hb dX3_fail_4 (by decide) (fun c_4 => ?_) (fun c_4 => ?_)
  · have c_4 := it_no c_4
    refine lv_iconst (v := nI 0) hx hb dX3_fail_27 (by decide) ?_
    exact retIz hx hb hr hlk dX3_fail_28 rfl hS (by rw [flS, if_neg (fun q => c_4 q.1)]; exact hP) (by rw [flX, if_neg (fun q => c_4 q.1)]; rfl)
  · have c_4 := it_yes c_4
    obtain ⟨j, lt_j, rfl⟩ := okI_of c_4 (Nat.le_of_ble_eq_true rfl)
    have e_j : (nI j).toNatClampNeg = j := nI_clamp (by omega)
    refine lv_aload_n hx hb dX3_fail_7 rfl (lv_at hl 0 rfl) ?_
    refine va_get (D := (dC, dI)) (ci := 3) (v := .ref (o 1)) (C := RX3) (T := TX3) (N := 4) hx hb hts inX3_fail_X3 hown hK hP (0) rfl rfl 0 (by decide) (hts _ lkX3_fail_11) (fun _ h9 => h9) rfl dX3_fail_8 ?_
    refine lv_iload_n hx hb dX3_fail_11 rfl (lv_at hl 1 rfl) ?_
    refine q_aald hx hb hK hP (1) 0 (j := j) rfl rfl lt_j (Nat.le_of_ble_eq_true rfl) dX3_fail_12 ?_
    refine va_get (D := (dC, dI)) (ci := 1) (v := .int (R j 2)) (C := RX1) (T := TX1) (N := 3) hx hb hts inX3_fail_X1 hown hK hP (7 + j) (wX_R lt_j) rfl 2 (by decide) (hts _ lkX3_fail_88) (fun _ h9 => h9) rfl dX3_fail_13 ?_
    refine lv_if_ne (tgt := 27) hx hb dX3_fail_16 (by decide) (fun c_16 => ?_) (fun c_16 => ?_)
    · refine lv_iconst (v := nI 0) hx hb dX3_fail_27 (by decide) ?_
      exact retIz hx hb hr hlk dX3_fail_28 rfl hS (by rw [flS, if_neg (fun q => c_16 (by have := q.2.1; rw [e_j] at this; exact this))]; exact hP) (by rw [flX, if_neg (fun q => c_16 (by have := q.2.1; rw [e_j] at this; exact this))]; rfl)
    · refine lv_aload_n hx hb dX3_fail_19 rfl (lv_at hl 0 rfl) ?_
      refine goS (va_runV (rm := ({ frames := 0, cells := 0, slots := 0, locals := 0 } : Room)) (As := []) (rest := []) ⟨hx, hb, hml, hown, hts⟩ (MetS.at (k_X3_countFailed l dC dI o k R C n f d g )) (cwV 0 hts gX3_fail_X3_countFailed rfl rfl rfl (by decide +kernel) ⟨Nat.le_of_ble_eq_true rfl, Nat.le_of_ble_eq_true rfl⟩) (preSV hK hP (va_recv hK hP (ci := 3) (q0 := 0) rfl rfl)) rfl rfl hl.1 rfl (lv_room (Nat.le_of_ble_eq_true rfl)) dX3_fail_20 ⟨Nat.le_of_ble_eq_true rfl, Nat.le_of_ble_eq_true rfl⟩) ?_
      refine lv_iconst (v := nI 2) hx hb dX3_fail_23 (by decide) ?_
      refine lv_icmp_lt (tgt := 29) hx hb dX3_fail_24 (by decide) (fun c_24 => ?_) (fun c_24 => ?_)
      · refine lv_aload_n hx hb dX3_fail_29 rfl (lv_at hl 0 rfl) ?_
        refine va_get (D := (dC, dI)) (ci := 3) (v := .ref (o 1)) (C := RX3) (T := TX3) (N := 4) hx hb hts inX3_fail_X3 hown hK hP (0) rfl rfl 0 (by decide) (hts _ lkX3_fail_11) (fun _ h9 => h9) rfl dX3_fail_30 ?_
        refine lv_iload_n hx hb dX3_fail_33 rfl (lv_at hl 1 rfl) ?_
        refine q_aald hx hb hK hP (1) 0 (j := j) rfl rfl lt_j (Nat.le_of_ble_eq_true rfl) dX3_fail_34 ?_
        refine lv_iconst (v := nI 1) hx hb dX3_fail_35 (by decide) ?_
        refine q_put (D := (dC, dI)) (ci := 1) (v := .int (nI 1)) (ty := .boolean) (C := RX1) (T := TX1) (N := 3) (ws' := (wX o k (up2 R j 2 (nI 1)) C n f d g)) hx hb hts inX3_fail_X1 tyX1 tyX1_ok nmX1 hown hK hP hD hS (7 + j) (wX_R lt_j) rfl 2 (by decide) (hts _ lkX3_fail_88) (fun _ h9 => h9) rfl (by decide +kernel) rfl rfl (Nat.le_of_ble_eq_true rfl) (wX_setR lt_j _ _ _ (by simp [up2]) (by intro a b h; simp [up2, h])) dX3_fail_36 (fun H locs hP hD hS => ?_)
        refine lv_iconst (v := nI 1) hx hb dX3_fail_39 (by decide) ?_
        exact retIz hx hb hr hlk dX3_fail_40 rfl hS (by rw [flS, if_pos ⟨c_4, by rw [e_j]; exact c_16, (Nat.lt_or_ge (cnF R 5) 2).elim id (fun w => absurd c_24 (nI_nlt w (by have := cnF_le R 5; omega)))⟩, e_j]; exact hP) (by rw [flX, if_pos ⟨c_4, by rw [e_j]; exact c_16, (Nat.lt_or_ge (cnF R 5) 2).elim id (fun w => absurd c_24 (nI_nlt w (by have := cnF_le R 5; omega)))⟩]; rfl)
      · refine lv_iconst (v := nI 0) hx hb dX3_fail_27 (by decide) ?_
        exact retIz hx hb hr hlk dX3_fail_28 rfl hS (by rw [flS, if_neg (fun q => absurd q.2.2 (by intro w; exact c_24 (nI_lt w (by decide))))]; exact hP) (by rw [flX, if_neg (fun q => absurd q.2.2 (by intro w; exact c_24 (nI_lt w (by decide))))]; rfl)
theorem lkX3_messages_28 : Cond.fieldLink RX3 28 "QuorumRegister" "pool" "LQuorumRegister$Rows;" ∈ wsX3_messages := by decide +kernel
theorem inX3_messages_X3 : ∀ w ∈ wsX30, w ∈ wsX3_messages := by decide +kernel
theorem lkX3_messages_64 : Cond.fieldLink RX3 64 "QuorumRegister$Rows" "count" "I" ∈ wsX3_messages := by decide +kernel
theorem inX3_messages_X2 : ∀ w ∈ wsX20, w ∈ wsX3_messages := by decide +kernel
set_option maxHeartbeats 4000000 in
set_option maxRecDepth 100000 in
/-- X3_messages -/
theorem k_X3_messages (l : Launch) (dC : Nat → ClassId) (dI : Nat → Nat → Nat) (o : Nat → Nat) (k : Nat → ClassId) (R C : Nat → Nat → Int32) (n : Nat) (f : Nat → Int32) (d : Nat) (g : Nat → Int32) : MetS l yX3_messages wsX3_messages ({ frames := 0, cells := 0, slots := 0, locals := 0 } : Room) (dC, dI) vwCl (wX o k R C n f d g) (tyX k) [.ref (o 0)] (nI n) := by
  refine MetS.of (cc := cX3_messages) (maxL := 1) (ret := (some .int)) (by decide) rfl (Nat.le_of_ble_eq_true rfl) rfl ?_
  intro p e s m below meth cd ls hx hb hr hlk hml hown hts hK hP hl
  have hl : lv_has ls 1 [(0, .ref (o 0))] := hl
  refine lv_aload_n hx hb dX3_messages_0 rfl (lv_at hl 0 rfl) ?_
  refine va_get (D := (dC, dI)) (ci := 3) (v := .ref (o 3)) (C := RX3) (T := TX3) (N := 4) hx hb hts inX3_messages_X3 hown hK hP (0) rfl rfl 2 (by decide) (hts _ lkX3_messages_28) (fun _ h9 => h9) rfl dX3_messages_1 ?_
  refine va_get (D := (dC, dI)) (ci := 2) (v := .int (nI n)) (C := RX2) (T := TX2) (N := 4) hx hb hts inX3_messages_X2 hown hK hP (3) rfl rfl 3 (by decide) (hts _ lkX3_messages_64) (fun _ h9 => h9) rfl dX3_messages_4 ?_
  exact retS hx hb hr hlk dX3_messages_7 (rfl)
theorem lkX3_finished_32 : Cond.fieldLink RX3 32 "QuorumRegister" "done" "LQuorumRegister$Rows;" ∈ wsX3_finished := by decide +kernel
theorem inX3_finished_X3 : ∀ w ∈ wsX30, w ∈ wsX3_finished := by decide +kernel
theorem lkX3_finished_64 : Cond.fieldLink RX3 64 "QuorumRegister$Rows" "count" "I" ∈ wsX3_finished := by decide +kernel
theorem inX3_finished_X2 : ∀ w ∈ wsX20, w ∈ wsX3_finished := by decide +kernel
set_option maxHeartbeats 4000000 in
set_option maxRecDepth 100000 in
/-- X3_finished -/
theorem k_X3_finished (l : Launch) (dC : Nat → ClassId) (dI : Nat → Nat → Nat) (o : Nat → Nat) (k : Nat → ClassId) (R C : Nat → Nat → Int32) (n : Nat) (f : Nat → Int32) (d : Nat) (g : Nat → Int32) : MetS l yX3_finished wsX3_finished ({ frames := 0, cells := 0, slots := 0, locals := 0 } : Room) (dC, dI) vwCl (wX o k R C n f d g) (tyX k) [.ref (o 0)] (nI d) := by
  refine MetS.of (cc := cX3_finished) (maxL := 1) (ret := (some .int)) (by decide) rfl (Nat.le_of_ble_eq_true rfl) rfl ?_
  intro p e s m below meth cd ls hx hb hr hlk hml hown hts hK hP hl
  have hl : lv_has ls 1 [(0, .ref (o 0))] := hl
  refine lv_aload_n hx hb dX3_finished_0 rfl (lv_at hl 0 rfl) ?_
  refine va_get (D := (dC, dI)) (ci := 3) (v := .ref (o 5)) (C := RX3) (T := TX3) (N := 4) hx hb hts inX3_finished_X3 hown hK hP (0) rfl rfl 3 (by decide) (hts _ lkX3_finished_32) (fun _ h9 => h9) rfl dX3_finished_1 ?_
  refine va_get (D := (dC, dI)) (ci := 2) (v := .int (nI d)) (C := RX2) (T := TX2) (N := 4) hx hb hts inX3_finished_X2 hown hK hP (5) rfl rfl 3 (by decide) (hts _ lkX3_finished_64) (fun _ h9 => h9) rfl dX3_finished_4 ?_
  exact retS hx hb hr hlk dX3_finished_7 (rfl)
theorem lkX3_tag_11 : Cond.fieldLink RX3 11 "QuorumRegister" "replicas" "[LQuorumRegister$Replica;" ∈ wsX3_tag := by decide +kernel
theorem inX3_tag_X3 : ∀ w ∈ wsX30, w ∈ wsX3_tag := by decide +kernel
theorem lkX3_tag_96 : Cond.fieldLink RX3 96 "QuorumRegister$Replica" "tag" "I" ∈ wsX3_tag := by decide +kernel
theorem inX3_tag_X1 : ∀ w ∈ wsX10, w ∈ wsX3_tag := by decide +kernel
set_option maxHeartbeats 4000000 in
set_option maxRecDepth 100000 in
/-- X3_tag -/
theorem k_X3_tag (l : Launch) (dC : Nat → ClassId) (dI : Nat → Nat → Nat) (o : Nat → Nat) (k : Nat → ClassId) (R C : Nat → Nat → Int32) (n : Nat) (f : Nat → Int32) (d : Nat) (g : Nat → Int32) (p0 : Int32) : MetS l yX3_tag wsX3_tag ({ frames := 1, cells := 0, slots := 0, locals := 20 } : Room) (dC, dI) vwCl (wX o k R C n f d g) (tyX k) [.ref (o 0), .int p0] (if okI p0 5 then R p0.toNatClampNeg 0 else (-1)) := by
  refine MetS.of (cc := cX3_tag) (maxL := 2) (ret := (some .int)) (by decide) rfl (Nat.le_of_ble_eq_true rfl) rfl ?_
  intro p e s m below meth cd ls hx hb hr hlk hml hown hts hK hP hl
  have hl : lv_has ls 2 [(0, .ref (o 0)), (1, .int p0)] := hl
  refine lv_iload_n hx hb dX3_tag_0 rfl (lv_at hl 1 rfl) ?_
  refine goS (va_runS (rm := ({ frames := 0, cells := 0, slots := 0, locals := 0 } : Room)) (As := [.int p0]) (rest := []) ⟨hx, hb, hml, hown, hts⟩ (MetS.at (k_X3_isReplica l dC dI p0)) (va_cwS 1 hts gX3_tag_X3_isReplica rfl rfl rfl (by decide +kernel) ⟨Nat.le_of_ble_eq_true rfl, Nat.le_of_ble_eq_true rfl⟩) (preSS (hK.sub [] rfl) va_P0) rfl rfl hl.1 rfl (lv_room (Nat.le_of_ble_eq_true rfl)) dX3_tag_1 ⟨Nat.le_of_ble_eq_true rfl, Nat.le_of_ble_eq_true rfl⟩) ?_
  refine lv_if_eq (tgt := 19) hx hb dX3_tag_4 (by decide) (fun c_4 => ?_) (fun c_4 => ?_)
  · have c_4 := it_no c_4
    refine lv_iconst (v := (-1)) hx hb dX3_tag_19 (by decide) ?_
    exact retS hx hb hr hlk dX3_tag_20 ((if_neg c_4).symm)
  · have c_4 := it_yes c_4
    obtain ⟨j, lt_j, rfl⟩ := okI_of c_4 (Nat.le_of_ble_eq_true rfl)
    have e_j : (nI j).toNatClampNeg = j := nI_clamp (by omega)
    refine lv_aload_n hx hb dX3_tag_7 rfl (lv_at hl 0 rfl) ?_
    refine va_get (D := (dC, dI)) (ci := 3) (v := .ref (o 1)) (C := RX3) (T := TX3) (N := 4) hx hb hts inX3_tag_X3 hown hK hP (0) rfl rfl 0 (by decide) (hts _ lkX3_tag_11) (fun _ h9 => h9) rfl dX3_tag_8 ?_
    refine lv_iload_n hx hb dX3_tag_11 rfl (lv_at hl 1 rfl) ?_
    refine q_aald hx hb hK hP (1) 0 (j := j) rfl rfl lt_j (Nat.le_of_ble_eq_true rfl) dX3_tag_12 ?_
    refine va_get (D := (dC, dI)) (ci := 1) (v := .int (R j 0)) (C := RX1) (T := TX1) (N := 3) hx hb hts inX3_tag_X1 hown hK hP (7 + j) (wX_R lt_j) rfl 0 (by decide) (hts _ lkX3_tag_96) (fun _ h9 => h9) rfl dX3_tag_13 ?_
    refine lv_goto (tgt := 20) hx hb dX3_tag_16 (by decide) ?_
    exact retS hx hb hr hlk dX3_tag_20 (by rw [if_pos c_4, e_j])
theorem lkX3_value_11 : Cond.fieldLink RX3 11 "QuorumRegister" "replicas" "[LQuorumRegister$Replica;" ∈ wsX3_value := by decide +kernel
theorem inX3_value_X3 : ∀ w ∈ wsX30, w ∈ wsX3_value := by decide +kernel
theorem lkX3_value_99 : Cond.fieldLink RX3 99 "QuorumRegister$Replica" "value" "I" ∈ wsX3_value := by decide +kernel
theorem inX3_value_X1 : ∀ w ∈ wsX10, w ∈ wsX3_value := by decide +kernel
set_option maxHeartbeats 4000000 in
set_option maxRecDepth 100000 in
/-- X3_value -/
theorem k_X3_value (l : Launch) (dC : Nat → ClassId) (dI : Nat → Nat → Nat) (o : Nat → Nat) (k : Nat → ClassId) (R C : Nat → Nat → Int32) (n : Nat) (f : Nat → Int32) (d : Nat) (g : Nat → Int32) (p0 : Int32) : MetS l yX3_value wsX3_value ({ frames := 1, cells := 0, slots := 0, locals := 20 } : Room) (dC, dI) vwCl (wX o k R C n f d g) (tyX k) [.ref (o 0), .int p0] (if okI p0 5 then R p0.toNatClampNeg 1 else 0) := by
  refine MetS.of (cc := cX3_value) (maxL := 2) (ret := (some .int)) (by decide) rfl (Nat.le_of_ble_eq_true rfl) rfl ?_
  intro p e s m below meth cd ls hx hb hr hlk hml hown hts hK hP hl
  have hl : lv_has ls 2 [(0, .ref (o 0)), (1, .int p0)] := hl
  refine lv_iload_n hx hb dX3_value_0 rfl (lv_at hl 1 rfl) ?_
  refine goS (va_runS (rm := ({ frames := 0, cells := 0, slots := 0, locals := 0 } : Room)) (As := [.int p0]) (rest := []) ⟨hx, hb, hml, hown, hts⟩ (MetS.at (k_X3_isReplica l dC dI p0)) (va_cwS 1 hts gX3_value_X3_isReplica rfl rfl rfl (by decide +kernel) ⟨Nat.le_of_ble_eq_true rfl, Nat.le_of_ble_eq_true rfl⟩) (preSS (hK.sub [] rfl) va_P0) rfl rfl hl.1 rfl (lv_room (Nat.le_of_ble_eq_true rfl)) dX3_value_1 ⟨Nat.le_of_ble_eq_true rfl, Nat.le_of_ble_eq_true rfl⟩) ?_
  refine lv_if_eq (tgt := 19) hx hb dX3_value_4 (by decide) (fun c_4 => ?_) (fun c_4 => ?_)
  · have c_4 := it_no c_4
    refine lv_iconst (v := nI 0) hx hb dX3_value_19 (by decide) ?_
    exact retS hx hb hr hlk dX3_value_20 ((if_neg c_4).symm)
  · have c_4 := it_yes c_4
    obtain ⟨j, lt_j, rfl⟩ := okI_of c_4 (Nat.le_of_ble_eq_true rfl)
    have e_j : (nI j).toNatClampNeg = j := nI_clamp (by omega)
    refine lv_aload_n hx hb dX3_value_7 rfl (lv_at hl 0 rfl) ?_
    refine va_get (D := (dC, dI)) (ci := 3) (v := .ref (o 1)) (C := RX3) (T := TX3) (N := 4) hx hb hts inX3_value_X3 hown hK hP (0) rfl rfl 0 (by decide) (hts _ lkX3_value_11) (fun _ h9 => h9) rfl dX3_value_8 ?_
    refine lv_iload_n hx hb dX3_value_11 rfl (lv_at hl 1 rfl) ?_
    refine q_aald hx hb hK hP (1) 0 (j := j) rfl rfl lt_j (Nat.le_of_ble_eq_true rfl) dX3_value_12 ?_
    refine va_get (D := (dC, dI)) (ci := 1) (v := .int (R j 1)) (C := RX1) (T := TX1) (N := 3) hx hb hts inX3_value_X1 hown hK hP (7 + j) (wX_R lt_j) rfl 1 (by decide) (hts _ lkX3_value_99) (fun _ h9 => h9) rfl dX3_value_13 ?_
    refine lv_goto (tgt := 20) hx hb dX3_value_16 (by decide) ?_
    exact retS hx hb hr hlk dX3_value_20 (by rw [if_pos c_4, e_j])
theorem lkX3_phase_18 : Cond.fieldLink RX3 18 "QuorumRegister" "clients" "[LQuorumRegister$Client;" ∈ wsX3_phase := by decide +kernel
theorem inX3_phase_X3 : ∀ w ∈ wsX30, w ∈ wsX3_phase := by decide +kernel
theorem lkX3_phase_43 : Cond.fieldLink RX3 43 "QuorumRegister$Client" "phase" "I" ∈ wsX3_phase := by decide +kernel
theorem inX3_phase_X0 : ∀ w ∈ wsX00, w ∈ wsX3_phase := by decide +kernel
set_option maxHeartbeats 4000000 in
set_option maxRecDepth 100000 in
/-- X3_phase -/
theorem k_X3_phase (l : Launch) (dC : Nat → ClassId) (dI : Nat → Nat → Nat) (o : Nat → Nat) (k : Nat → ClassId) (R C : Nat → Nat → Int32) (n : Nat) (f : Nat → Int32) (d : Nat) (g : Nat → Int32) (p0 : Int32) : MetS l yX3_phase wsX3_phase ({ frames := 1, cells := 0, slots := 0, locals := 20 } : Room) (dC, dI) vwCl (wX o k R C n f d g) (tyX k) [.ref (o 0), .int p0] (if okI p0 3 then C p0.toNatClampNeg 0 else (-1)) := by
  refine MetS.of (cc := cX3_phase) (maxL := 2) (ret := (some .int)) (by decide) rfl (Nat.le_of_ble_eq_true rfl) rfl ?_
  intro p e s m below meth cd ls hx hb hr hlk hml hown hts hK hP hl
  have hl : lv_has ls 2 [(0, .ref (o 0)), (1, .int p0)] := hl
  refine lv_iload_n hx hb dX3_phase_0 rfl (lv_at hl 1 rfl) ?_
  refine goS (va_runS (rm := ({ frames := 0, cells := 0, slots := 0, locals := 0 } : Room)) (As := [.int p0]) (rest := []) ⟨hx, hb, hml, hown, hts⟩ (MetS.at (k_X3_isClient l dC dI p0)) (va_cwS 1 hts gX3_phase_X3_isClient rfl rfl rfl (by decide +kernel) ⟨Nat.le_of_ble_eq_true rfl, Nat.le_of_ble_eq_true rfl⟩) (preSS (hK.sub [] rfl) va_P0) rfl rfl hl.1 rfl (lv_room (Nat.le_of_ble_eq_true rfl)) dX3_phase_1 ⟨Nat.le_of_ble_eq_true rfl, Nat.le_of_ble_eq_true rfl⟩) ?_
  refine lv_if_eq (tgt := 19) hx hb dX3_phase_4 (by decide) (fun c_4 => ?_) (fun c_4 => ?_)
  · have c_4 := it_no c_4
    refine lv_iconst (v := (-1)) hx hb dX3_phase_19 (by decide) ?_
    exact retS hx hb hr hlk dX3_phase_20 ((if_neg c_4).symm)
  · have c_4 := it_yes c_4
    obtain ⟨j, lt_j, rfl⟩ := okI_of c_4 (Nat.le_of_ble_eq_true rfl)
    have e_j : (nI j).toNatClampNeg = j := nI_clamp (by omega)
    refine lv_aload_n hx hb dX3_phase_7 rfl (lv_at hl 0 rfl) ?_
    refine va_get (D := (dC, dI)) (ci := 3) (v := .ref (o 2)) (C := RX3) (T := TX3) (N := 4) hx hb hts inX3_phase_X3 hown hK hP (0) rfl rfl 1 (by decide) (hts _ lkX3_phase_18) (fun _ h9 => h9) rfl dX3_phase_8 ?_
    refine lv_iload_n hx hb dX3_phase_11 rfl (lv_at hl 1 rfl) ?_
    refine q_aald hx hb hK hP (2) 1 (j := j) rfl rfl lt_j (Nat.le_of_ble_eq_true rfl) dX3_phase_12 ?_
    refine va_get (D := (dC, dI)) (ci := 0) (v := .int (C j 0)) (C := RX0) (T := TX0) (N := 8) hx hb hts inX3_phase_X0 hown hK hP (12 + j) (wX_C lt_j) rfl 0 (by decide) (hts _ lkX3_phase_43) (fun _ h9 => h9) rfl dX3_phase_13 ?_
    refine lv_goto (tgt := 20) hx hb dX3_phase_16 (by decide) ?_
    exact retS hx hb hr hlk dX3_phase_20 (by rw [if_pos c_4, e_j])
theorem lkX3_answered_18 : Cond.fieldLink RX3 18 "QuorumRegister" "clients" "[LQuorumRegister$Client;" ∈ wsX3_answered := by decide +kernel
theorem inX3_answered_X3 : ∀ w ∈ wsX30, w ∈ wsX3_answered := by decide +kernel
theorem lkX3_answered_102 : Cond.fieldLink RX3 102 "QuorumRegister$Client" "answers" "I" ∈ wsX3_answered := by decide +kernel
theorem inX3_answered_X0 : ∀ w ∈ wsX00, w ∈ wsX3_answered := by decide +kernel
set_option maxHeartbeats 4000000 in
set_option maxRecDepth 100000 in
/-- X3_answered -/
theorem k_X3_answered (l : Launch) (dC : Nat → ClassId) (dI : Nat → Nat → Nat) (o : Nat → Nat) (k : Nat → ClassId) (R C : Nat → Nat → Int32) (n : Nat) (f : Nat → Int32) (d : Nat) (g : Nat → Int32) (p0 : Int32) : MetS l yX3_answered wsX3_answered ({ frames := 1, cells := 0, slots := 0, locals := 20 } : Room) (dC, dI) vwCl (wX o k R C n f d g) (tyX k) [.ref (o 0), .int p0] (if okI p0 3 then C p0.toNatClampNeg 4 else (-1)) := by
  refine MetS.of (cc := cX3_answered) (maxL := 2) (ret := (some .int)) (by decide) rfl (Nat.le_of_ble_eq_true rfl) rfl ?_
  intro p e s m below meth cd ls hx hb hr hlk hml hown hts hK hP hl
  have hl : lv_has ls 2 [(0, .ref (o 0)), (1, .int p0)] := hl
  refine lv_iload_n hx hb dX3_answered_0 rfl (lv_at hl 1 rfl) ?_
  refine goS (va_runS (rm := ({ frames := 0, cells := 0, slots := 0, locals := 0 } : Room)) (As := [.int p0]) (rest := []) ⟨hx, hb, hml, hown, hts⟩ (MetS.at (k_X3_isClient l dC dI p0)) (va_cwS 1 hts gX3_answered_X3_isClient rfl rfl rfl (by decide +kernel) ⟨Nat.le_of_ble_eq_true rfl, Nat.le_of_ble_eq_true rfl⟩) (preSS (hK.sub [] rfl) va_P0) rfl rfl hl.1 rfl (lv_room (Nat.le_of_ble_eq_true rfl)) dX3_answered_1 ⟨Nat.le_of_ble_eq_true rfl, Nat.le_of_ble_eq_true rfl⟩) ?_
  refine lv_if_eq (tgt := 19) hx hb dX3_answered_4 (by decide) (fun c_4 => ?_) (fun c_4 => ?_)
  · have c_4 := it_no c_4
    refine lv_iconst (v := (-1)) hx hb dX3_answered_19 (by decide) ?_
    exact retS hx hb hr hlk dX3_answered_20 ((if_neg c_4).symm)
  · have c_4 := it_yes c_4
    obtain ⟨j, lt_j, rfl⟩ := okI_of c_4 (Nat.le_of_ble_eq_true rfl)
    have e_j : (nI j).toNatClampNeg = j := nI_clamp (by omega)
    refine lv_aload_n hx hb dX3_answered_7 rfl (lv_at hl 0 rfl) ?_
    refine va_get (D := (dC, dI)) (ci := 3) (v := .ref (o 2)) (C := RX3) (T := TX3) (N := 4) hx hb hts inX3_answered_X3 hown hK hP (0) rfl rfl 1 (by decide) (hts _ lkX3_answered_18) (fun _ h9 => h9) rfl dX3_answered_8 ?_
    refine lv_iload_n hx hb dX3_answered_11 rfl (lv_at hl 1 rfl) ?_
    refine q_aald hx hb hK hP (2) 1 (j := j) rfl rfl lt_j (Nat.le_of_ble_eq_true rfl) dX3_answered_12 ?_
    refine va_get (D := (dC, dI)) (ci := 0) (v := .int (C j 4)) (C := RX0) (T := TX0) (N := 8) hx hb hts inX3_answered_X0 hown hK hP (12 + j) (wX_C lt_j) rfl 4 (by decide) (hts _ lkX3_answered_102) (fun _ h9 => h9) rfl dX3_answered_13 ?_
    refine lv_goto (tgt := 20) hx hb dX3_answered_16 (by decide) ?_
    exact retS hx hb hr hlk dX3_answered_20 (by rw [if_pos c_4, e_j])
theorem lkX3_failed_11 : Cond.fieldLink RX3 11 "QuorumRegister" "replicas" "[LQuorumRegister$Replica;" ∈ wsX3_failed := by decide +kernel
theorem inX3_failed_X3 : ∀ w ∈ wsX30, w ∈ wsX3_failed := by decide +kernel
theorem lkX3_failed_88 : Cond.fieldLink RX3 88 "QuorumRegister$Replica" "failed" "Z" ∈ wsX3_failed := by decide +kernel
theorem inX3_failed_X1 : ∀ w ∈ wsX10, w ∈ wsX3_failed := by decide +kernel
set_option maxHeartbeats 4000000 in
set_option maxRecDepth 100000 in
/-- failed(r) -/
theorem k_X3_failed (l : Launch) (dC : Nat → ClassId) (dI : Nat → Nat → Nat) (o : Nat → Nat) (k : Nat → ClassId) (R C : Nat → Nat → Int32) (n : Nat) (f : Nat → Int32) (d : Nat) (g : Nat → Int32) (p0 : Int32) : MetS l yX3_failed wsX3_failed ({ frames := 1, cells := 0, slots := 0, locals := 20 } : Room) (dC, dI) vwCl (wX o k R C n f d g) (tyX k) [.ref (o 0), .int p0] (if okI p0 5 ∧ ¬ R p0.toNatClampNeg 2 = 0 then 1 else 0) := by
  refine MetS.of (cc := cX3_failed) (maxL := 2) (ret := (some .boolean)) (by decide) rfl (Nat.le_of_ble_eq_true rfl) rfl ?_
  intro p e s m below meth cd ls hx hb hr hlk hml hown hts hK hP hl
  have hl : lv_has ls 2 [(0, .ref (o 0)), (1, .int p0)] := hl
  refine lv_iload_n hx hb dX3_failed_0 rfl (lv_at hl 1 rfl) ?_
  refine goS (va_runS (rm := ({ frames := 0, cells := 0, slots := 0, locals := 0 } : Room)) (As := [.int p0]) (rest := []) ⟨hx, hb, hml, hown, hts⟩ (MetS.at (k_X3_isReplica l dC dI p0)) (va_cwS 1 hts gX3_failed_X3_isReplica rfl rfl rfl (by decide +kernel) ⟨Nat.le_of_ble_eq_true rfl, Nat.le_of_ble_eq_true rfl⟩) (preSS (hK.sub [] rfl) va_P0) rfl rfl hl.1 rfl (lv_room (Nat.le_of_ble_eq_true rfl)) dX3_failed_1 ⟨Nat.le_of_ble_eq_true rfl, Nat.le_of_ble_eq_true rfl⟩) ?_
  refine lv_if_eq (tgt := 23) hx hb dX3_failed_4 (by decide) (fun c_4 => ?_) (fun c_4 => ?_)
  · have c_4 := it_no c_4
    refine lv_iconst (v := nI 0) hx hb dX3_failed_23 (by decide) ?_
    exact retSz hx hb hr hlk dX3_failed_24 rfl (by rw [if_neg (fun q => c_4 q.1)]; rfl)
  · have c_4 := it_yes c_4
    obtain ⟨j, lt_j, rfl⟩ := okI_of c_4 (Nat.le_of_ble_eq_true rfl)
    have e_j : (nI j).toNatClampNeg = j := nI_clamp (by omega)
    refine lv_aload_n hx hb dX3_failed_7 rfl (lv_at hl 0 rfl) ?_
    refine va_get (D := (dC, dI)) (ci := 3) (v := .ref (o 1)) (C := RX3) (T := TX3) (N := 4) hx hb hts inX3_failed_X3 hown hK hP (0) rfl rfl 0 (by decide) (hts _ lkX3_failed_11) (fun _ h9 => h9) rfl dX3_failed_8 ?_
    refine lv_iload_n hx hb dX3_failed_11 rfl (lv_at hl 1 rfl) ?_
    refine q_aald hx hb hK hP (1) 0 (j := j) rfl rfl lt_j (Nat.le_of_ble_eq_true rfl) dX3_failed_12 ?_
    refine va_get (D := (dC, dI)) (ci := 1) (v := .int (R j 2)) (C := RX1) (T := TX1) (N := 3) hx hb hts inX3_failed_X1 hown hK hP (7 + j) (wX_R lt_j) rfl 2 (by decide) (hts _ lkX3_failed_88) (fun _ h9 => h9) rfl dX3_failed_13 ?_
    refine lv_if_eq (tgt := 23) hx hb dX3_failed_16 (by decide) (fun c_16 => ?_) (fun c_16 => ?_)
    · refine lv_iconst (v := nI 0) hx hb dX3_failed_23 (by decide) ?_
      exact retSz hx hb hr hlk dX3_failed_24 rfl (by rw [if_neg (fun q => q.2 (by rw [e_j]; exact c_16))]; rfl)
    · refine lv_iconst (v := nI 1) hx hb dX3_failed_19 (by decide) ?_
      refine lv_goto (tgt := 24) hx hb dX3_failed_20 (by decide) ?_
      exact retSz hx hb hr hlk dX3_failed_24 rfl (by rw [if_pos ⟨c_4, by rw [e_j]; exact c_16⟩]; rfl)
theorem lkX3_message_28 : Cond.fieldLink RX3 28 "QuorumRegister" "pool" "LQuorumRegister$Rows;" ∈ wsX3_message := by decide +kernel
theorem inX3_message_X3 : ∀ w ∈ wsX30, w ∈ wsX3_message := by decide +kernel
set_option maxHeartbeats 4000000 in
set_option maxRecDepth 100000 in
/-- X3_message -/
theorem k_X3_message (l : Launch) (dC : Nat → ClassId) (dI : Nat → Nat → Nat) (o : Nat → Nat) (k : Nat → ClassId) (R C : Nat → Nat → Int32) (n : Nat) (f : Nat → Int32) (d : Nat) (g : Nat → Int32) (hn : n ≤ 77) (p0 p1 : Int32) : MetS l yX3_message wsX3_message ({ frames := 2, cells := 0, slots := 0, locals := 43 } : Room) (dC, dI) vwCl (wX o k R C n f d g) (tyX k) [.ref (o 0), .int p0, .int p1] (if okI p0 n then (if okI p1 6 then f (p0.toNatClampNeg * 6 + p1.toNatClampNeg) else 0) else (-1)) := by
  refine MetS.of (cc := cX3_message) (maxL := 3) (ret := (some .int)) (by decide) rfl (Nat.le_of_ble_eq_true rfl) rfl ?_
  intro p e s m below meth cd ls hx hb hr hlk hml hown hts hK hP hl
  have hl : lv_has ls 3 [(0, .ref (o 0)), (1, .int p0), (2, .int p1)] := hl
  refine lv_aload_n hx hb dX3_message_0 rfl (lv_at hl 0 rfl) ?_
  refine va_get (D := (dC, dI)) (ci := 3) (v := .ref (o 3)) (C := RX3) (T := TX3) (N := 4) hx hb hts inX3_message_X3 hown hK hP (0) rfl rfl 2 (by decide) (hts _ lkX3_message_28) (fun _ h9 => h9) rfl dX3_message_1 ?_
  refine lv_iload_n hx hb dX3_message_4 rfl (lv_at hl 1 rfl) ?_
  refine lv_iload_n hx hb dX3_message_5 rfl (lv_at hl 2 rfl) ?_
  refine goS (va_runV (rm := ({ frames := 1, cells := 0, slots := 0, locals := 21 } : Room)) (As := [.int p0, .int p1]) (rest := []) ⟨hx, hb, hml, hown, hts⟩ (MetS.at (k_X2_cell l dC dI (o 3) (o 4) (k 2) 6 77 n f  (by omega) (Nat.le_of_ble_eq_true rfl) (Nat.le_of_ble_eq_true rfl) (Nat.le_of_ble_eq_true rfl) p0 p1)) (cwV 2 hts gX3_message_X2_cell rfl rfl rfl (by decide +kernel) ⟨Nat.le_of_ble_eq_true rfl, Nat.le_of_ble_eq_true rfl⟩) (preSV (show va_K (dC, dI) vwCl [(k 2, .int)] s from hK.sub [2] rfl) (show va_P (dC, dI) vwCl (wR (o 3) (o 4) (k 2) 6 77 n f) s.heap from hP.sub [3, 4] rfl) (va_recv hK hP (ci := 2) (q0 := 3) rfl rfl)) rfl rfl hl.1 rfl (lv_room (Nat.le_of_ble_eq_true rfl)) dX3_message_6 ⟨Nat.le_of_ble_eq_true rfl, Nat.le_of_ble_eq_true rfl⟩) ?_
  exact retS hx hb hr hlk dX3_message_9 (rfl)
theorem lkX3_operation_32 : Cond.fieldLink RX3 32 "QuorumRegister" "done" "LQuorumRegister$Rows;" ∈ wsX3_operation := by decide +kernel
theorem inX3_operation_X3 : ∀ w ∈ wsX30, w ∈ wsX3_operation := by decide +kernel
set_option maxHeartbeats 4000000 in
set_option maxRecDepth 100000 in
/-- X3_operation -/
theorem k_X3_operation (l : Launch) (dC : Nat → ClassId) (dI : Nat → Nat → Nat) (o : Nat → Nat) (k : Nat → ClassId) (R C : Nat → Nat → Int32) (n : Nat) (f : Nat → Int32) (d : Nat) (g : Nat → Int32) (hn : d ≤ 39) (p0 p1 : Int32) : MetS l yX3_operation wsX3_operation ({ frames := 2, cells := 0, slots := 0, locals := 43 } : Room) (dC, dI) vwCl (wX o k R C n f d g) (tyX k) [.ref (o 0), .int p0, .int p1] (if okI p0 d then (if okI p1 5 then g (p0.toNatClampNeg * 5 + p1.toNatClampNeg) else 0) else (-1)) := by
  refine MetS.of (cc := cX3_operation) (maxL := 3) (ret := (some .int)) (by decide) rfl (Nat.le_of_ble_eq_true rfl) rfl ?_
  intro p e s m below meth cd ls hx hb hr hlk hml hown hts hK hP hl
  have hl : lv_has ls 3 [(0, .ref (o 0)), (1, .int p0), (2, .int p1)] := hl
  refine lv_aload_n hx hb dX3_operation_0 rfl (lv_at hl 0 rfl) ?_
  refine va_get (D := (dC, dI)) (ci := 3) (v := .ref (o 5)) (C := RX3) (T := TX3) (N := 4) hx hb hts inX3_operation_X3 hown hK hP (0) rfl rfl 3 (by decide) (hts _ lkX3_operation_32) (fun _ h9 => h9) rfl dX3_operation_1 ?_
  refine lv_iload_n hx hb dX3_operation_4 rfl (lv_at hl 1 rfl) ?_
  refine lv_iload_n hx hb dX3_operation_5 rfl (lv_at hl 2 rfl) ?_
  refine goS (va_runV (rm := ({ frames := 1, cells := 0, slots := 0, locals := 21 } : Room)) (As := [.int p0, .int p1]) (rest := []) ⟨hx, hb, hml, hown, hts⟩ (MetS.at (k_X2_cell l dC dI (o 5) (o 6) (k 3) 5 39 d g  (by omega) (Nat.le_of_ble_eq_true rfl) (Nat.le_of_ble_eq_true rfl) (Nat.le_of_ble_eq_true rfl) p0 p1)) (cwV 2 hts gX3_operation_X2_cell rfl rfl rfl (by decide +kernel) ⟨Nat.le_of_ble_eq_true rfl, Nat.le_of_ble_eq_true rfl⟩) (preSV (show va_K (dC, dI) vwCl [(k 3, .int)] s from hK.sub [3] rfl) (show va_P (dC, dI) vwCl (wR (o 5) (o 6) (k 3) 5 39 d g) s.heap from hP.sub [5, 6] rfl) (va_recv hK hP (ci := 2) (q0 := 5) rfl rfl)) rfl rfl hl.1 rfl (lv_room (Nat.le_of_ble_eq_true rfl)) dX3_operation_6 ⟨Nat.le_of_ble_eq_true rfl, Nat.le_of_ble_eq_true rfl⟩) ?_
  exact retS hx hb hr hlk dX3_operation_9 (rfl)
