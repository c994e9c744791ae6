/-! QuorumRegister: the answers to messages -/
theorem stoC1 {C : Nat → Nat → Int32} {c : Nat} : stoC C c c 1 = C c 1 := by
  unfold stoC wriC
  split <;> simp [up2]
theorem telC4 {C : Nat → Nat → Int32} {c : Nat} {r t v : Int32} : telC C c r t v c 4 = C c 4 ||| (nI 1 <<< (r &&& 31)) := by
  unfold telC heaC
  split <;> simp [up2]
theorem telC1 {C : Nat → Nat → Int32} {c : Nat} {r t v : Int32} : telC C c r t v c 1 = C c 1 := by
  unfold telC heaC
  split <;> simp [up2]
theorem heaC4 {C : Nat → Nat → Int32} {c : Nat} {r : Int32} : heaC C c r c 4 = C c 4 ||| (nI 1 <<< (r &&& 31)) := by simp [heaC, up2]
theorem tb_out {x : Int32} (h0 : ¬ x = nI 0) (h1 : ¬ x = nI 1) (h2 : ¬ x = nI 2) : x.toInt < 0 ∨ 2 < x.toInt := by
  have e0 : ¬ x.toInt = 0 := fun q => h0 (Int32.toInt_inj.mp (by rw [q]; rfl))
  have e1 : ¬ x.toInt = 1 := fun q => h1 (Int32.toInt_inj.mp (by rw [q]; rfl))
  have e2 : ¬ x.toInt = 2 := fun q => h2 (Int32.toInt_inj.mp (by rw [q]; rfl))
  omega
/-- deliver, lose, repeat, fail: answers and states -/
def dlM (σ : St) (kd : Int32) (c r : Nat) (s t v : Int32) : St := if kd = nI 0 then stAsk σ c r s else if kd = nI 1 then stTel σ c r s t v else if kd = nI 2 then stStr σ c r s t v else stStd σ c r s
def dlI (σ : St) (i : Nat) : St := dlM (σ.1, σ.2.1, σ.2.2.1 - 1, drp σ.2.2.2.1 σ.2.2.1 i, σ.2.2.2.2.1, σ.2.2.2.2.2) (σ.2.2.2.1 (i * 6 + 0)) (σ.2.2.2.1 (i * 6 + 1)).toNatClampNeg (σ.2.2.2.1 (i * 6 + 2)).toNatClampNeg (σ.2.2.2.1 (i * 6 + 3)) (σ.2.2.2.1 (i * 6 + 4)) (σ.2.2.2.1 (i * 6 + 5))
def dlS (σ : St) (p0 : Int32) : St := if okI p0 σ.2.2.1 then dlI σ p0.toNatClampNeg else σ
def dlX (σ : St) (p0 : Int32) : Int32 := if okI p0 σ.2.2.1 then nI (dlS σ p0).2.2.1 - nI (σ.2.2.1 - 1) else (-1)
def lsX (σ : St) (p0 : Int32) : Int32 := if okI p0 σ.2.2.1 then 1 else 0
def lsS (σ : St) (p0 : Int32) : St := if okI p0 σ.2.2.1 then (σ.1, σ.2.1, σ.2.2.1 - 1, drp σ.2.2.2.1 σ.2.2.1 p0.toNatClampNeg, σ.2.2.2.2.1, σ.2.2.2.2.2) else σ
def rpX (σ : St) (p0 : Int32) : Int32 := if okI p0 σ.2.2.1 ∧ ¬ 60 < σ.2.2.1 then 1 else 0
def rpS (σ : St) (p0 : Int32) : St := if okI p0 σ.2.2.1 ∧ ¬ 60 < σ.2.2.1 then (σ.1, σ.2.1, σ.2.2.1 + 1, va_cpy σ.2.2.2.1 σ.2.2.2.1 (p0.toNatClampNeg * 6) (σ.2.2.1 * 6) 6, σ.2.2.2.2.1, σ.2.2.2.2.2) else σ
def flX (σ : St) (p0 : Int32) : Int32 := if okI p0 5 ∧ σ.1 p0.toNatClampNeg 2 = 0 ∧ cnF σ.1 5 < 2 then 1 else 0
def flS (σ : St) (p0 : Int32) : St := if okI p0 5 ∧ σ.1 p0.toNatClampNeg 2 = 0 ∧ cnF σ.1 5 < 2 then (up2 σ.1 p0.toNatClampNeg 2 (nI 1), σ.2.1, σ.2.2.1, σ.2.2.2.1, σ.2.2.2.2.1, σ.2.2.2.2.2) else σ
theorem dlS_at {R C : Nat → Nat → Int32} {n : Nat} {f : Nat → Int32} {d : Nat} {g : Nat → Int32} {i c r : Nat} (hi : i < n) (hn : n < 2 ^ 31) (hc : c < 3) (hr : r < 5) (ec : f (i * 6 + 1) = nI c) (er : f (i * 6 + 2) = nI r) : dlS (R, C, n, f, d, g) (nI i) = dlM (R, C, n - 1, drp f n i, d, g) (f (i * 6 + 0)) c r (f (i * 6 + 3)) (f (i * 6 + 4)) (f (i * 6 + 5)) := by
  unfold dlS
  rw [if_pos (show okI (nI i) (R, C, n, f, d, g).2.2.1 from okI_nI hi hn), nI_clamp (by omega)]
  show dlM (R, C, n - 1, drp f n i, d, g) (f (i * 6 + 0)) (f (i * 6 + 1)).toNatClampNeg (f (i * 6 + 2)).toNatClampNeg (f (i * 6 + 3)) (f (i * 6 + 4)) (f (i * 6 + 5)) = _
  rw [ec, er, nI_clamp (by omega), nI_clamp (by omega)]
theorem dlM_0 {σ : St} {kd : Int32} {c r : Nat} {s t v : Int32} (h : kd = nI 0) : dlM σ kd c r s t v = stAsk σ c r s := if_pos h
theorem dlM_1 {σ : St} {kd : Int32} {c r : Nat} {s t v : Int32} (h : kd = nI 1) : dlM σ kd c r s t v = stTel σ c r s t v := by
  unfold dlM
  rw [if_neg (by rw [h]; decide +kernel), if_pos h]
theorem dlM_2 {σ : St} {kd : Int32} {c r : Nat} {s t v : Int32} (h : kd = nI 2) : dlM σ kd c r s t v = stStr σ c r s t v := by
  unfold dlM
  rw [if_neg (by rw [h]; decide +kernel), if_neg (by rw [h]; decide +kernel), if_pos h]
theorem dlM_3 {σ : St} {kd : Int32} {c r : Nat} {s t v : Int32} (h0 : ¬ kd = nI 0) (h1 : ¬ kd = nI 1) (h2 : ¬ kd = nI 2) : dlM σ kd c r s t v = stStd σ c r s := by
  unfold dlM
  rw [if_neg h0, if_neg h1, if_neg h2]
theorem lkX3_store_18 : Cond.fieldLink RX3 18 "QuorumRegister" "clients" "[LQuorumRegister$Client;" ∈ wsX3_store := by decide +kernel
theorem inX3_store_X3 : ∀ w ∈ wsX30, w ∈ wsX3_store := by decide +kernel
theorem lkX3_store_108 : Cond.fieldLink RX3 108 "QuorumRegister$Client" "writes" "Z" ∈ wsX3_store := by decide +kernel
theorem inX3_store_X0 : ∀ w ∈ wsX00, w ∈ wsX3_store := by decide +kernel
theorem lkX3_store_114 : Cond.fieldLink RX3 114 "QuorumRegister$Client" "tag" "I" ∈ wsX3_store := by decide +kernel
theorem lkX3_store_115 : Cond.fieldLink RX3 115 "QuorumRegister$Client" "value" "I" ∈ wsX3_store := by decide +kernel
theorem lkX3_store_137 : Cond.fieldLink RX3 137 "QuorumRegister$Client" "lastNumber" "I" ∈ wsX3_store := by decide +kernel
theorem wdX3_store_mx1 : Cond.methodLink RX3 140 Lib.Math.max.name ∈ wsX3_store := by decide +kernel
theorem wdX3_store_mx2 : Cond.static Lib.Math.max.name ∈ wsX3_store := by decide +kernel
theorem wdX3_store_mx3 : Cond.initialized "java/lang/Math" ∈ wsX3_store := by decide +kernel
theorem wdX3_store_mx4 : Cond.code Lib.Math.max.name Lib.Math.max.code 2 (some .int) ∈ wsX3_store := by decide +kernel
theorem lkX3_store_111 : Cond.fieldLink RX3 111 "QuorumRegister$Client" "toWrite" "I" ∈ wsX3_store := by decide +kernel
set_option maxHeartbeats 4000000 in
set_option maxRecDepth 100000 in
/-- store(c) -/
theorem k_X3_store (l : Launch) (dC : Nat → ClassId) (dI : Nat → Nat → Nat) (o : Nat → Nat) (k : Nat → ClassId) (R C : Nat → Nat → Int32) (n : Nat) (f : Nat → Int32) (d : Nat) (g : Nat → Int32) (hn : n + 5 ≤ 77) (c : Nat) (lt_c : c < 3) : MetV l yX3_store wsX3_store ({ frames := 4, cells := 0, slots := 0, locals := 96 } : Room) (dC, dI) vwCl (wX o k R C n f d g) (tyX k) [.ref (o 0), .int (nI c)] (wS o k (stSto (R, C, n, f, d, g) c)) := by
  refine MetV.of (cc := cX3_store) (maxL := 4) (ret := none) (by decide) rfl (Nat.le_of_ble_eq_true rfl) rfl ?_
  intro p e s m below meth cd ls A hx hb hr hlk hml hown hts hK hP hD hS hA hl
  have hl : lv_has ls 4 [(0, .ref (o 0)), (1, .int (nI c))] := hl
  refine lv_aload_n hx hb dX3_store_0 rfl (lv_at hl 0 rfl) ?_
  refine va_get (D := (dC, dI)) (ci := 3) (v := .ref (o 2)) (C := RX3) (T := TX3) (N := 4) hx hb hts inX3_store_X3 hown hK hP (0) rfl rfl 1 (by decide) (hts _ lkX3_store_18) (fun _ h9 => h9) rfl dX3_store_1 ?_
  refine lv_iload_n hx hb dX3_store_4 rfl (lv_at hl 1 rfl) ?_
  refine q_aald hx hb hK hP (2) 1 (j := c) rfl rfl lt_c (Nat.le_of_ble_eq_true rfl) dX3_store_5 ?_
  refine lv_astore_n (lv' := [(2, .ref (o (12 + c))), (0, .ref (o 0)), (1, .int (nI c))]) hx hb dX3_store_6 rfl hl (by decide) rfl (fun ls hl => ?_)
  refine lv_aload_n hx hb dX3_store_7 rfl (lv_at hl 0 rfl) ?_
  refine va_get (D := (dC, dI)) (ci := 0) (v := .int (C c 2)) (C := RX0) (T := TX0) (N := 8) hx hb hts inX3_store_X0 hown hK hP (12 + c) (wX_C lt_c) rfl 2 (by decide) (hts _ lkX3_store_108) (fun _ h9 => h9) rfl dX3_store_8 ?_
  refine lv_if_eq (tgt := 52) hx hb dX3_store_11 (by decide) (fun c_11 => ?_) (fun c_11 => ?_)
  · refine lv_aload_n hx hb dX3_store_52 rfl (lv_at hl 0 rfl) ?_
    refine lv_iconst (v := nI 2) hx hb dX3_store_53 (by decide) ?_
    refine goV (ws := (wX o k R C n f d g)) (ws' := (wX o k R (up2 (up2 C c 0 (nI 2)) c 4 (nI 0)) n f d g)) (show qFit (wX o k R C n f d g) (wC (o (12 + c)) (C c)) [(o (12 + c), .inr (0, [.int (nI 2), .int (C c 1), .int (C c 2), .int (C c 3), .int (nI 0), .int (C c 5), .int (C c 6), .int (C c 7)]))] (wX o k R (up2 (up2 C c 0 (nI 2)) c 4 (nI 0)) n f d g) from qFit1 hD (wX_C lt_c) (wX_setC lt_c _ _ _ _ _ _ _ _ (by simp [up2]) (by intro a b h; simp [up2, h]))) hP hD hS hA (va_runV (rm := ({ frames := 0, cells := 0, slots := 0, locals := 0 } : Room)) (As := [.int (nI 2)]) (rest := []) ⟨hx, hb, hml, hown, hts⟩ (MetV.at (k_X0_enter l dC dI (o (12 + c)) (C c) (nI 2)) s.heap.size) (cwV 1 hts gX3_store_X0_enter rfl rfl rfl (by decide +kernel) ⟨Nat.le_of_ble_eq_true rfl, Nat.le_of_ble_eq_true rfl⟩) (preWV (hK.sub [] rfl) (va_P1 hP (wX_C lt_c)) va_D1 (va_recv hK hP (ci := 0) (q0 := 12 + c) rfl (wX_C lt_c))) rfl rfl hl.1 rfl (lv_room (Nat.le_of_ble_eq_true rfl)) dX3_store_54 ⟨Nat.le_of_ble_eq_true rfl, Nat.le_of_ble_eq_true rfl⟩) (fun H locs hP hD hS => ?_)
    rw [show up2 (up2 C c 0 (nI 2)) c 4 (nI 0) = stoC C c from by rw [stoC, if_pos c_11]] at hP hD
    refine lv_aload_n hx hb dX3_store_57 rfl (lv_at hl 1 rfl) ?_
    refine lv_iconst (v := nI 2) hx hb dX3_store_58 (by decide) ?_
    refine lv_iload_n hx hb dX3_store_59 rfl (lv_at hl 2 rfl) ?_
    refine lv_aload_n hx hb dX3_store_60 rfl (lv_at hl 0 rfl) ?_
    refine va_get (D := (dC, dI)) (ci := 0) (v := .int ((stoC C c) c 5)) (C := RX0) (T := TX0) (N := 8) hx hb hts inX3_store_X0 hown hK hP (12 + c) (wX_C lt_c) rfl 5 (by decide) (hts _ lkX3_store_114) (fun _ h9 => h9) rfl dX3_store_61 ?_
    refine lv_aload_n hx hb dX3_store_64 rfl (lv_at hl 0 rfl) ?_
    refine va_get (D := (dC, dI)) (ci := 0) (v := .int ((stoC C c) c 6)) (C := RX0) (T := TX0) (N := 8) hx hb hts inX3_store_X0 hown hK hP (12 + c) (wX_C lt_c) rfl 6 (by decide) (hts _ lkX3_store_115) (fun _ h9 => h9) rfl dX3_store_65 ?_
    refine goV (ws := (wX o k R (stoC C c) n f d g)) (ws' := (wX o k R (stoC C c) (n + 5) (sndN (nI 2) (nI c) ((stoC C c) c 1) ((stoC C c) c 5) ((stoC C c) c 6) f n 5) d g)) (qFit_all rfl) hP hD hS hA (va_runV (rm := ({ frames := 3, cells := 0, slots := 0, locals := 71 } : Room)) (As := [.int (nI 2), .int (nI c), .int ((stoC C c) c 5), .int ((stoC C c) c 6)]) (rest := []) ⟨hx, hb, hml, hown, hts⟩ (MetV.at (k_X3_sendToAll l dC dI o k R (stoC C c) n f d g hn c lt_c (nI 2) ((stoC C c) c 5) ((stoC C c) c 6)) H.size) (cwV 4 hts gX3_store_X3_sendToAll rfl rfl rfl (by decide +kernel) ⟨Nat.le_of_ble_eq_true rfl, Nat.le_of_ble_eq_true rfl⟩) (preWV hK hP hD (va_recv hK hP (ci := 3) (q0 := 0) rfl rfl)) rfl rfl hl.1 rfl (lv_room (Nat.le_of_ble_eq_true rfl)) dX3_store_68 ⟨Nat.le_of_ble_eq_true rfl, Nat.le_of_ble_eq_true rfl⟩) (fun H locs hP hD hS => ?_)
    exact retV hx hb hr hlk dX3_store_71 hS (by rw [stoC1] at hP; exact hP)
  · refine lv_iconst (v := nI 1) hx hb dX3_store_14 (by decide) ?_
    refine lv_aload_n hx hb dX3_store_15 rfl (lv_at hl 0 rfl) ?_
    refine va_get (D := (dC, dI)) (ci := 0) (v := .int (C c 5)) (C := RX0) (T := TX0) (N := 8) hx hb hts inX3_store_X0 hown hK hP (12 + c) (wX_C lt_c) rfl 5 (by decide) (hts _ lkX3_store_114) (fun _ h9 => h9) rfl dX3_store_16 ?_
    refine lv_iconst (v := nI 4) hx hb dX3_store_19 (by decide) ?_
    refine lv_idiv hx hb dX3_store_20 (by decide) ?_
    refine lv_aload_n hx hb dX3_store_21 rfl (lv_at hl 0 rfl) ?_
    refine va_get (D := (dC, dI)) (ci := 0) (v := .int (C c 7)) (C := RX0) (T := TX0) (N := 8) hx hb hts inX3_store_X0 hown hK hP (12 + c) (wX_C lt_c) rfl 7 (by decide) (hts _ lkX3_store_137) (fun _ h9 => h9) rfl dX3_store_22 ?_
    refine va_mmax hx hb (hml.trans hl.1.symm) hown (hts _ wdX3_store_mx1) (hts _ wdX3_store_mx2) (hts _ wdX3_store_mx3) (hts _ wdX3_store_mx4) (Nat.le_of_ble_eq_true rfl) (Nat.le_of_ble_eq_true rfl) (Nat.le_of_ble_eq_true rfl) (Nat.le_of_ble_eq_true rfl) dX3_store_25 ?_
    refine lv_iadd hx hb dX3_store_28 ?_
    refine qtop (y := numC C c) rfl ?_
    refine lv_istore_n (lv' := [(3, .int (numC C c)), (2, .ref (o (12 + c))), (0, .ref (o 0)), (1, .int (nI c))]) hx hb dX3_store_29 rfl hl (by decide) rfl (fun ls hl => ?_)
    refine lv_aload_n hx hb dX3_store_30 rfl (lv_at hl 1 rfl) ?_
    refine lv_iload_n hx hb dX3_store_31 rfl (lv_at hl 0 rfl) ?_
    refine q_put (D := (dC, dI)) (ci := 0) (v := .int (numC C c)) (ty := .int) (C := RX0) (T := TX0) (N := 8) (ws' := (wX o k R (up2 C c 7 (numC C c)) n f d g)) hx hb hts inX3_store_X0 tyX0 tyX0_ok nmX0 hown hK hP hD hS (12 + c) (wX_C lt_c) rfl 7 (by decide) (hts _ lkX3_store_137) (fun _ h9 => h9) rfl (by decide +kernel) rfl rfl (Nat.le_of_ble_eq_true rfl) (wX_setC lt_c _ _ _ _ _ _ _ _ (by simp [up2]) (by intro a b h; simp [up2, h])) dX3_store_32 (fun H locs hP hD hS => ?_)
    refine lv_aload_n hx hb dX3_store_35 rfl (lv_at hl 1 rfl) ?_
    refine lv_iconst (v := nI 4) hx hb dX3_store_36 (by decide) ?_
    refine lv_iload_n hx hb dX3_store_37 rfl (lv_at hl 0 rfl) ?_
    refine lv_imul hx hb dX3_store_38 ?_
    refine lv_iload_n hx hb dX3_store_39 rfl (lv_at hl 3 rfl) ?_
    refine lv_iadd hx hb dX3_store_40 ?_
    refine q_put (D := (dC, dI)) (ci := 0) (v := .int (((nI 4) * (numC C c)) + (nI c))) (ty := .int) (C := RX0) (T := TX0) (N := 8) (ws' := (wX o k R (up2 (up2 C c 7 (numC C c)) c 5 (((nI 4) * (numC C c)) + (nI c))) n f d g)) hx hb hts inX3_store_X0 tyX0 tyX0_ok nmX0 hown hK hP hD hS (12 + c) (wX_C lt_c) rfl 5 (by decide) (hts _ lkX3_store_114) (fun _ h9 => h9) rfl (by decide +kernel) rfl rfl (Nat.le_of_ble_eq_true rfl) (wX_setC lt_c _ _ _ _ _ _ _ _ (by simp [up2]) (by intro a b h; simp [up2, h])) dX3_store_41 (fun H locs hP hD hS => ?_)
    refine lv_aload_n hx hb dX3_store_44 rfl (lv_at hl 1 rfl) ?_
    refine lv_aload_n hx hb dX3_store_45 rfl (lv_at hl 1 rfl) ?_
    refine va_get (D := (dC, dI)) (ci := 0) (v := .int ((up2 (up2 C c 7 (numC C c)) c 5 (((nI 4) * (numC C c)) + (nI c))) c 3)) (C := RX0) (T := TX0) (N := 8) hx hb hts inX3_store_X0 hown hK hP (12 + c) (wX_C lt_c) rfl 3 (by decide) (hts _ lkX3_store_111) (fun _ h9 => h9) rfl dX3_store_46 ?_
    refine qtop (y := C c 3) (by simp [up2]) ?_
    refine q_put (D := (dC, dI)) (ci := 0) (v := .int (C c 3)) (ty := .int) (C := RX0) (T := TX0) (N := 8) (ws' := (wX o k R (up2 (up2 (up2 C c 7 (numC C c)) c 5 (((nI 4) * (numC C c)) + (nI c))) c 6 (C c 3)) n f d g)) hx hb hts inX3_store_X0 tyX0 tyX0_ok nmX0 hown hK hP hD hS (12 + c) (wX_C lt_c) rfl 6 (by decide) (hts _ lkX3_store_115) (fun _ h9 => h9) rfl (by decide +kernel) rfl rfl (Nat.le_of_ble_eq_true rfl) (wX_setC lt_c _ _ _ _ _ _ _ _ (by simp [up2]) (by intro a b h; simp [up2, h])) dX3_store_49 (fun H locs hP hD hS => ?_)
    have hP : va_P (dC, dI) vwCl (wX o k R (wriC C c) n f d g) H := hP
    have hD : va_D A (wX o k R (wriC C c) n f d g) := hD
    refine lv_aload_n hx hb dX3_store_52 rfl (lv_at hl 1 rfl) ?_
    refine lv_iconst (v := nI 2) hx hb dX3_store_53 (by decide) ?_
    refine goV (ws := (wX o k R (wriC C c) n f d g)) (ws' := (wX o k R (up2 (up2 (wriC C c) c 0 (nI 2)) c 4 (nI 0)) n f d g)) (show qFit (wX o k R (wriC C c) n f d g) (wC (o (12 + c)) ((wriC C c) c)) [(o (12 + c), .inr (0, [.int (nI 2), .int ((wriC C c) c 1), .int ((wriC C c) c 2), .int ((wriC C c) c 3), .int (nI 0), .int ((wriC C c) c 5), .int ((wriC C c) c 6), .int ((wriC C c) c 7)]))] (wX o k R (up2 (up2 (wriC C c) c 0 (nI 2)) c 4 (nI 0)) n f d g) from qFit1 hD (wX_C lt_c) (wX_setC lt_c _ _ _ _ _ _ _ _ (by simp [up2]) (by intro a b h; simp [up2, h]))) hP hD hS hA (va_runV (rm := ({ frames := 0, cells := 0, slots := 0, locals := 0 } : Room)) (As := [.int (nI 2)]) (rest := []) ⟨hx, hb, hml, hown, hts⟩ (MetV.at (k_X0_enter l dC dI (o (12 + c)) ((wriC C c) c) (nI 2)) H.size) (cwV 1 hts gX3_store_X0_enter rfl rfl rfl (by decide +kernel) ⟨Nat.le_of_ble_eq_true rfl, Nat.le_of_ble_eq_true rfl⟩) (preWV (hK.sub [] rfl) (va_P1 hP (wX_C lt_c)) va_D1 (va_recv hK hP (ci := 0) (q0 := 12 + c) rfl (wX_C lt_c))) rfl rfl hl.1 rfl (lv_room (Nat.le_of_ble_eq_true rfl)) dX3_store_54 ⟨Nat.le_of_ble_eq_true rfl, Nat.le_of_ble_eq_true rfl⟩) (fun H locs hP hD hS => ?_)
    rw [show up2 (up2 (wriC C c) c 0 (nI 2)) c 4 (nI 0) = stoC C c from by rw [stoC, if_neg c_11]] at hP hD
    refine lv_aload_n hx hb dX3_store_57 rfl (lv_at hl 2 rfl) ?_
    refine lv_iconst (v := nI 2) hx hb dX3_store_58 (by decide) ?_
    refine lv_iload_n hx hb dX3_store_59 rfl (lv_at hl 3 rfl) ?_
    refine lv_aload_n hx hb dX3_store_60 rfl (lv_at hl 1 rfl) ?_
    refine va_get (D := (dC, dI)) (ci := 0) (v := .int ((stoC C c) c 5)) (C := RX0) (T := TX0) (N := 8) hx hb hts inX3_store_X0 hown hK hP (12 + c) (wX_C lt_c) rfl 5 (by decide) (hts _ lkX3_store_114) (fun _ h9 => h9) rfl dX3_store_61 ?_
    refine lv_aload_n hx hb dX3_store_64 rfl (lv_at hl 1 rfl) ?_
    refine va_get (D := (dC, dI)) (ci := 0) (v := .int ((stoC C c) c 6)) (C := RX0) (T := TX0) (N := 8) hx hb hts inX3_store_X0 hown hK hP (12 + c) (wX_C lt_c) rfl 6 (by decide) (hts _ lkX3_store_115) (fun _ h9 => h9) rfl dX3_store_65 ?_
    refine goV (ws := (wX o k R (stoC C c) n f d g)) (ws' := (wX o k R (stoC C c) (n + 5) (sndN (nI 2) (nI c) ((stoC C c) c 1) ((stoC C c) c 5) ((stoC C c) c 6) f n 5) d g)) (qFit_all rfl) hP hD hS hA (va_runV (rm := ({ frames := 3, cells := 0, slots := 0, locals := 71 } : Room)) (As := [.int (nI 2), .int (nI c), .int ((stoC C c) c 5), .int ((stoC C c) c 6)]) (rest := []) ⟨hx, hb, hml, hown, hts⟩ (MetV.at (k_X3_sendToAll l dC dI o k R (stoC C c) n f d g hn c lt_c (nI 2) ((stoC C c) c 5) ((stoC C c) c 6)) H.size) (cwV 4 hts gX3_store_X3_sendToAll rfl rfl rfl (by decide +kernel) ⟨Nat.le_of_ble_eq_true rfl, Nat.le_of_ble_eq_true rfl⟩) (preWV hK hP hD (va_recv hK hP (ci := 3) (q0 := 0) rfl rfl)) rfl rfl hl.1 rfl (lv_room (Nat.le_of_ble_eq_true rfl)) dX3_store_68 ⟨Nat.le_of_ble_eq_true rfl, Nat.le_of_ble_eq_true rfl⟩) (fun H locs hP hD hS => ?_)
    exact retV hx hb hr hlk dX3_store_71 hS (by rw [stoC1] at hP; exact hP)
theorem lkX3_finish_18 : Cond.fieldLink RX3 18 "QuorumRegister" "clients" "[LQuorumRegister$Client;" ∈ wsX3_finish := by decide +kernel
theorem inX3_finish_X3 : ∀ w ∈ wsX30, w ∈ wsX3_finish := by decide +kernel
theorem lkX3_finish_32 : Cond.fieldLink RX3 32 "QuorumRegister" "done" "LQuorumRegister$Rows;" ∈ wsX3_finish := by decide +kernel
theorem lkX3_finish_105 : Cond.fieldLink RX3 105 "QuorumRegister$Client" "serial" "I" ∈ wsX3_finish := by decide +kernel
theorem inX3_finish_X0 : ∀ w ∈ wsX00, w ∈ wsX3_finish := by decide +kernel
theorem lkX3_finish_108 : Cond.fieldLink RX3 108 "QuorumRegister$Client" "writes" "Z" ∈ wsX3_finish := by decide +kernel
theorem lkX3_finish_115 : Cond.fieldLink RX3 115 "QuorumRegister$Client" "value" "I" ∈ wsX3_finish := by decide +kernel
theorem lkX3_finish_114 : Cond.fieldLink RX3 114 "QuorumRegister$Client" "tag" "I" ∈ wsX3_finish := by decide +kernel
set_option maxHeartbeats 4000000 in
set_option maxRecDepth 100000 in
/-- finish(c) -/
theorem k_X3_finish (l : Launch) (dC : Nat → ClassId) (dI : Nat → Nat → Nat) (o : Nat → Nat) (k : Nat → ClassId) (R C : Nat → Nat → Int32) (n : Nat) (f : Nat → Int32) (d : Nat) (g : Nat → Int32) (hd : d < 39) (c : Nat) (lt_c : c < 3) : MetV l yX3_finish wsX3_finish ({ frames := 2, cells := 0, slots := 0, locals := 44 } : Room) (dC, dI) vwCl (wX o k R C n f d g) (tyX k) [.ref (o 0), .int (nI c)] (wS o k (stFin (R, C, n, f, d, g) c)) := by
  refine MetV.of (cc := cX3_finish) (maxL := 4) (ret := none) (by decide) rfl (Nat.le_of_ble_eq_true rfl) rfl ?_
  intro p e s m below meth cd ls A hx hb hr hlk hml hown hts hK hP hD hS hA hl
  have hl : lv_has ls 4 [(0, .ref (o 0)), (1, .int (nI c))] := hl
  refine lv_aload_n hx hb dX3_finish_0 rfl (lv_at hl 0 rfl) ?_
  refine va_get (D := (dC, dI)) (ci := 3) (v := .ref (o 2)) (C := RX3) (T := TX3) (N := 4) hx hb hts inX3_finish_X3 hown hK hP (0) rfl rfl 1 (by decide) (hts _ lkX3_finish_18) (fun _ h9 => h9) rfl dX3_finish_1 ?_
  refine lv_iload_n hx hb dX3_finish_4 rfl (lv_at hl 1 rfl) ?_
  refine q_aald hx hb hK hP (2) 1 (j := c) rfl rfl lt_c (Nat.le_of_ble_eq_true rfl) dX3_finish_5 ?_
  refine lv_astore_n (lv' := [(2, .ref (o (12 + c))), (0, .ref (o 0)), (1, .int (nI c))]) hx hb dX3_finish_6 rfl hl (by decide) rfl (fun ls hl => ?_)
  refine lv_aload_n hx hb dX3_finish_7 rfl (lv_at hl 1 rfl) ?_
  refine va_get (D := (dC, dI)) (ci := 3) (v := .ref (o 5)) (C := RX3) (T := TX3) (N := 4) hx hb hts inX3_finish_X3 hown hK hP (0) rfl rfl 3 (by decide) (hts _ lkX3_finish_32) (fun _ h9 => h9) rfl dX3_finish_8 ?_
  refine goI (ws := (wX o k R C n f d g)) (ws' := (wX o k R C n f (d + 1) g)) (show qFit (wX o k R C n f d g) (wR (o 5) (o 6) (k 3) 5 39 d g) (wR (o 5) (o 6) (k 3) 5 39 (d + 1) g) (wX o k R C n f (d + 1) g) from qFit2 hD (k1 := 5) (k2 := 6) rfl rfl (by decide) rfl) hP hD hS hA (va_runV (rm := ({ frames := 0, cells := 0, slots := 0, locals := 0 } : Room)) (As := []) (rest := []) ⟨hx, hb, hml, hown, hts⟩ (MetI.at (k_X2_add l dC dI (o 5) (o 6) (k 3) 5 39 d g hd (Nat.le_of_ble_eq_true rfl)) s.heap.size) (cwV 0 hts gX3_finish_X2_add rfl rfl rfl (by decide +kernel) ⟨Nat.le_of_ble_eq_true rfl, Nat.le_of_ble_eq_true rfl⟩) (preWV (show va_K (dC, dI) vwCl [(k 3, .int)] s from hK.sub [3] rfl) (show va_P (dC, dI) vwCl (wR (o 5) (o 6) (k 3) 5 39 d g) s.heap from hP.sub [5, 6] rfl) (show va_D A (wR (o 5) (o 6) (k 3) 5 39 d g) from hD.sub [5, 6] (by decide) rfl) (va_recv hK hP (ci := 2) (q0 := 5) rfl rfl)) rfl rfl hl.1 rfl (lv_room (Nat.le_of_ble_eq_true rfl)) dX3_finish_11 ⟨Nat.le_of_ble_eq_true rfl, Nat.le_of_ble_eq_true rfl⟩) (fun H locs hP hD hS => ?_)
  refine lv_istore_n (lv' := [(3, .int (nI d)), (2, .ref (o (12 + c))), (0, .ref (o 0)), (1, .int (nI c))]) hx hb dX3_finish_14 rfl hl (by decide) rfl (fun ls hl => ?_)
  refine lv_aload_n hx hb dX3_finish_15 rfl (lv_at hl 2 rfl) ?_
  refine va_get (D := (dC, dI)) (ci := 3) (v := .ref (o 5)) (C := RX3) (T := TX3) (N := 4) hx hb hts inX3_finish_X3 hown hK hP (0) rfl rfl 3 (by decide) (hts _ lkX3_finish_32) (fun _ h9 => h9) rfl dX3_finish_16 ?_
  refine lv_iload_n hx hb dX3_finish_19 rfl (lv_at hl 0 rfl) ?_
  refine lv_iconst (v := nI 0) hx hb dX3_finish_20 (by decide) ?_
  refine lv_iload_n hx hb dX3_finish_21 rfl (lv_at hl 3 rfl) ?_
  refine goV (ws := (wX o k R C n f (d + 1) g)) (ws' := (wX o k R C n f (d + 1) (upd g (d * 5 + 0) (nI c)))) (show qFit (wX o k R C n f (d + 1) g) (wR (o 5) (o 6) (k 3) 5 39 (d + 1) g) (wR (o 5) (o 6) (k 3) 5 39 (d + 1) (upd g (d * 5 + 0) (nI c))) (wX o k R C n f (d + 1) (upd g (d * 5 + 0) (nI c))) from qFit2 hD (k1 := 5) (k2 := 6) rfl rfl (by decide) rfl) hP hD hS hA (va_runV (rm := ({ frames := 1, cells := 0, slots := 0, locals := 21 } : Room)) (As := [.int (nI d), .int (nI 0), .int (nI c)]) (rest := []) ⟨hx, hb, hml, hown, hts⟩ (MetV.at (k_X2_set l dC dI (o 5) (o 6) (k 3) 5 39 (d + 1) g (by omega) (Nat.le_of_ble_eq_true rfl) (Nat.le_of_ble_eq_true rfl) (Nat.le_of_ble_eq_true rfl) d 0 (Nat.lt_succ_self d) (by decide) (nI c)) H.size) (cwV 3 hts gX3_finish_X2_set rfl rfl rfl (by decide +kernel) ⟨Nat.le_of_ble_eq_true rfl, Nat.le_of_ble_eq_true rfl⟩) (preWV (show va_K (dC, dI) vwCl [(k 3, .int)] s from hK.sub [3] rfl) (show va_P (dC, dI) vwCl (wR (o 5) (o 6) (k 3) 5 39 (d + 1) g) H from hP.sub [5, 6] rfl) (show va_D A (wR (o 5) (o 6) (k 3) 5 39 (d + 1) g) from hD.sub [5, 6] (by decide) rfl) (va_recv hK hP (ci := 2) (q0 := 5) rfl rfl)) rfl rfl hl.1 rfl (lv_room (Nat.le_of_ble_eq_true rfl)) dX3_finish_22 ⟨Nat.le_of_ble_eq_true rfl, Nat.le_of_ble_eq_true rfl⟩) (fun H locs hP hD hS => ?_)
  refine lv_aload_n hx hb dX3_finish_25 rfl (lv_at hl 2 rfl) ?_
  refine va_get (D := (dC, dI)) (ci := 3) (v := .ref (o 5)) (C := RX3) (T := TX3) (N := 4) hx hb hts inX3_finish_X3 hown hK hP (0) rfl rfl 3 (by decide) (hts _ lkX3_finish_32) (fun _ h9 => h9) rfl dX3_finish_26 ?_
  refine lv_iload_n hx hb dX3_finish_29 rfl (lv_at hl 0 rfl) ?_
  refine lv_iconst (v := nI 1) hx hb dX3_finish_30 (by decide) ?_
  refine lv_aload_n hx hb dX3_finish_31 rfl (lv_at hl 1 rfl) ?_
  refine va_get (D := (dC, dI)) (ci := 0) (v := .int (C c 1)) (C := RX0) (T := TX0) (N := 8) hx hb hts inX3_finish_X0 hown hK hP (12 + c) (wX_C lt_c) rfl 1 (by decide) (hts _ lkX3_finish_105) (fun _ h9 => h9) rfl dX3_finish_32 ?_
  refine goV (ws := (wX o k R C n f (d + 1) (upd g (d * 5 + 0) (nI c)))) (ws' := (wX o k R C n f (d + 1) (upd (upd g (d * 5 + 0) (nI c)) (d * 5 + 1) (C c 1)))) (show qFit (wX o k R C n f (d + 1) (upd g (d * 5 + 0) (nI c))) (wR (o 5) (o 6) (k 3) 5 39 (d + 1) (upd g (d * 5 + 0) (nI c))) (wR (o 5) (o 6) (k 3) 5 39 (d + 1) (upd (upd g (d * 5 + 0) (nI c)) (d * 5 + 1) (C c 1))) (wX o k R C n f (d + 1) (upd (upd g (d * 5 + 0) (nI c)) (d * 5 + 1) (C c 1))) from qFit2 hD (k1 := 5) (k2 := 6) rfl rfl (by decide) rfl) hP hD hS hA (va_runV (rm := ({ frames := 1, cells := 0, slots := 0, locals := 21 } : Room)) (As := [.int (nI d), .int (nI 1), .int (C c 1)]) (rest := []) ⟨hx, hb, hml, hown, hts⟩ (MetV.at (k_X2_set l dC dI (o 5) (o 6) (k 3) 5 39 (d + 1) (upd g (d * 5 + 0) (nI c)) (by omega) (Nat.le_of_ble_eq_true rfl) (Nat.le_of_ble_eq_true rfl) (Nat.le_of_ble_eq_true rfl) d 1 (Nat.lt_succ_self d) (by decide) (C c 1)) H.size) (cwV 3 hts gX3_finish_X2_set rfl rfl rfl (by decide +kernel) ⟨Nat.le_of_ble_eq_true rfl, Nat.le_of_ble_eq_true rfl⟩) (preWV (show va_K (dC, dI) vwCl [(k 3, .int)] s from hK.sub [3] rfl) (show va_P (dC, dI) vwCl (wR (o 5) (o 6) (k 3) 5 39 (d + 1) (upd g (d * 5 + 0) (nI c))) H from hP.sub [5, 6] rfl) (show va_D A (wR (o 5) (o 6) (k 3) 5 39 (d + 1) (upd g (d * 5 + 0) (nI c))) from hD.sub [5, 6] (by decide) rfl) (va_recv hK hP (ci := 2) (q0 := 5) rfl rfl)) rfl rfl hl.1 rfl (lv_room (Nat.le_of_ble_eq_true rfl)) dX3_finish_35 ⟨Nat.le_of_ble_eq_true rfl, Nat.le_of_ble_eq_true rfl⟩) (fun H locs hP hD hS => ?_)
  refine lv_aload_n hx hb dX3_finish_38 rfl (lv_at hl 2 rfl) ?_
  refine va_get (D := (dC, dI)) (ci := 3) (v := .ref (o 5)) (C := RX3) (T := TX3) (N := 4) hx hb hts inX3_finish_X3 hown hK hP (0) rfl rfl 3 (by decide) (hts _ lkX3_finish_32) (fun _ h9 => h9) rfl dX3_finish_39 ?_
  refine lv_iload_n hx hb dX3_finish_42 rfl (lv_at hl 0 rfl) ?_
  refine lv_iconst (v := nI 2) hx hb dX3_finish_43 (by decide) ?_
  refine lv_aload_n hx hb dX3_finish_44 rfl (lv_at hl 1 rfl) ?_
  refine va_get (D := (dC, dI)) (ci := 0) (v := .int (C c 2)) (C := RX0) (T := TX0) (N := 8) hx hb hts inX3_finish_X0 hown hK hP (12 + c) (wX_C lt_c) rfl 2 (by decide) (hts _ lkX3_finish_108) (fun _ h9 => h9) rfl dX3_finish_45 ?_
  refine lv_if_eq (tgt := 55) hx hb dX3_finish_48 (by decide) (fun c_48 => ?_) (fun c_48 => ?_)
  · refine lv_iconst (v := nI 0) hx hb dX3_finish_55 (by decide) ?_
    refine goV (ws := (wX o k R C n f (d + 1) (upd (upd g (d * 5 + 0) (nI c)) (d * 5 + 1) (C c 1)))) (ws' := (wX o k R C n f (d + 1) (upd (upd (upd g (d * 5 + 0) (nI c)) (d * 5 + 1) (C c 1)) (d * 5 + 2) (nI 0)))) (show qFit (wX o k R C n f (d + 1) (upd (upd g (d * 5 + 0) (nI c)) (d * 5 + 1) (C c 1))) (wR (o 5) (o 6) (k 3) 5 39 (d + 1) (upd (upd g (d * 5 + 0) (nI c)) (d * 5 + 1) (C c 1))) (wR (o 5) (o 6) (k 3) 5 39 (d + 1) (upd (upd (upd g (d * 5 + 0) (nI c)) (d * 5 + 1) (C c 1)) (d * 5 + 2) (nI 0))) (wX o k R C n f (d + 1) (upd (upd (upd g (d * 5 + 0) (nI c)) (d * 5 + 1) (C c 1)) (d * 5 + 2) (nI 0))) from qFit2 hD (k1 := 5) (k2 := 6) rfl rfl (by decide) rfl) hP hD hS hA (va_runV (rm := ({ frames := 1, cells := 0, slots := 0, locals := 21 } : Room)) (As := [.int (nI d), .int (nI 2), .int (nI 0)]) (rest := []) ⟨hx, hb, hml, hown, hts⟩ (MetV.at (k_X2_set l dC dI (o 5) (o 6) (k 3) 5 39 (d + 1) (upd (upd g (d * 5 + 0) (nI c)) (d * 5 + 1) (C c 1)) (by omega) (Nat.le_of_ble_eq_true rfl) (Nat.le_of_ble_eq_true rfl) (Nat.le_of_ble_eq_true rfl) d 2 (Nat.lt_succ_self d) (by decide) (nI 0)) H.size) (cwV 3 hts gX3_finish_X2_set rfl rfl rfl (by decide +kernel) ⟨Nat.le_of_ble_eq_true rfl, Nat.le_of_ble_eq_true rfl⟩) (preWV (show va_K (dC, dI) vwCl [(k 3, .int)] s from hK.sub [3] rfl) (show va_P (dC, dI) vwCl (wR (o 5) (o 6) (k 3) 5 39 (d + 1) (upd (upd g (d * 5 + 0) (nI c)) (d * 5 + 1) (C c 1))) H from hP.sub [5, 6] rfl) (show va_D A (wR (o 5) (o 6) (k 3) 5 39 (d + 1) (upd (upd g (d * 5 + 0) (nI c)) (d * 5 + 1) (C c 1))) from hD.sub [5, 6] (by decide) rfl) (va_recv hK hP (ci := 2) (q0 := 5) rfl rfl)) rfl rfl hl.1 rfl (lv_room (Nat.le_of_ble_eq_true rfl)) dX3_finish_56 ⟨Nat.le_of_ble_eq_true rfl, Nat.le_of_ble_eq_true rfl⟩) (fun H locs hP hD hS => ?_)
    refine lv_aload_n hx hb dX3_finish_59 rfl (lv_at hl 2 rfl) ?_
    refine va_get (D := (dC, dI)) (ci := 3) (v := .ref (o 5)) (C := RX3) (T := TX3) (N := 4) hx hb hts inX3_finish_X3 hown hK hP (0) rfl rfl 3 (by decide) (hts _ lkX3_finish_32) (fun _ h9 => h9) rfl dX3_finish_60 ?_
    refine lv_iload_n hx hb dX3_finish_63 rfl (lv_at hl 0 rfl) ?_
    refine lv_iconst (v := nI 3) hx hb dX3_finish_64 (by decide) ?_
    refine lv_aload_n hx hb dX3_finish_65 rfl (lv_at hl 1 rfl) ?_
    refine va_get (D := (dC, dI)) (ci := 0) (v := .int (C c 6)) (C := RX0) (T := TX0) (N := 8) hx hb hts inX3_finish_X0 hown hK hP (12 + c) (wX_C lt_c) rfl 6 (by decide) (hts _ lkX3_finish_115) (fun _ h9 => h9) rfl dX3_finish_66 ?_
    refine goV (ws := (wX o k R C n f (d + 1) (upd (upd (upd g (d * 5 + 0) (nI c)) (d * 5 + 1) (C c 1)) (d * 5 + 2) (nI 0)))) (ws' := (wX o k R C n f (d + 1) (upd (upd (upd (upd g (d * 5 + 0) (nI c)) (d * 5 + 1) (C c 1)) (d * 5 + 2) (nI 0)) (d * 5 + 3) (C c 6)))) (show qFit (wX o k R C n f (d + 1) (upd (upd (upd g (d * 5 + 0) (nI c)) (d * 5 + 1) (C c 1)) (d * 5 + 2) (nI 0))) (wR (o 5) (o 6) (k 3) 5 39 (d + 1) (upd (upd (upd g (d * 5 + 0) (nI c)) (d * 5 + 1) (C c 1)) (d * 5 + 2) (nI 0))) (wR (o 5) (o 6) (k 3) 5 39 (d + 1) (upd (upd (upd (upd g (d * 5 + 0) (nI c)) (d * 5 + 1) (C c 1)) (d * 5 + 2) (nI 0)) (d * 5 + 3) (C c 6))) (wX o k R C n f (d + 1) (upd (upd (upd (upd g (d * 5 + 0) (nI c)) (d * 5 + 1) (C c 1)) (d * 5 + 2) (nI 0)) (d * 5 + 3) (C c 6))) from qFit2 hD (k1 := 5) (k2 := 6) rfl rfl (by decide) rfl) hP hD hS hA (va_runV (rm := ({ frames := 1, cells := 0, slots := 0, locals := 21 } : Room)) (As := [.int (nI d), .int (nI 3), .int (C c 6)]) (rest := []) ⟨hx, hb, hml, hown, hts⟩ (MetV.at (k_X2_set l dC dI (o 5) (o 6) (k 3) 5 39 (d + 1) (upd (upd (upd g (d * 5 + 0) (nI c)) (d * 5 + 1) (C c 1)) (d * 5 + 2) (nI 0)) (by omega) (Nat.le_of_ble_eq_true rfl) (Nat.le_of_ble_eq_true rfl) (Nat.le_of_ble_eq_true rfl) d 3 (Nat.lt_succ_self d) (by decide) (C c 6)) H.size) (cwV 3 hts gX3_finish_X2_set rfl rfl rfl (by decide +kernel) ⟨Nat.le_of_ble_eq_true rfl, Nat.le_of_ble_eq_true rfl⟩) (preWV (show va_K (dC, dI) vwCl [(k 3, .int)] s from hK.sub [3] rfl) (show va_P (dC, dI) vwCl (wR (o 5) (o 6) (k 3) 5 39 (d + 1) (upd (upd (upd g (d * 5 + 0) (nI c)) (d * 5 + 1) (C c 1)) (d * 5 + 2) (nI 0))) H from hP.sub [5, 6] rfl) (show va_D A (wR (o 5) (o 6) (k 3) 5 39 (d + 1) (upd (upd (upd g (d * 5 + 0) (nI c)) (d * 5 + 1) (C c 1)) (d * 5 + 2) (nI 0))) from hD.sub [5, 6] (by decide) rfl) (va_recv hK hP (ci := 2) (q0 := 5) rfl rfl)) rfl rfl hl.1 rfl (lv_room (Nat.le_of_ble_eq_true rfl)) dX3_finish_69 ⟨Nat.le_of_ble_eq_true rfl, Nat.le_of_ble_eq_true rfl⟩) (fun H locs hP hD hS => ?_)
    refine lv_aload_n hx hb dX3_finish_72 rfl (lv_at hl 2 rfl) ?_
    refine va_get (D := (dC, dI)) (ci := 3) (v := .ref (o 5)) (C := RX3) (T := TX3) (N := 4) hx hb hts inX3_finish_X3 hown hK hP (0) rfl rfl 3 (by decide) (hts _ lkX3_finish_32) (fun _ h9 => h9) rfl dX3_finish_73 ?_
    refine lv_iload_n hx hb dX3_finish_76 rfl (lv_at hl 0 rfl) ?_
    refine lv_iconst (v := nI 4) hx hb dX3_finish_77 (by decide) ?_
    refine lv_aload_n hx hb dX3_finish_78 rfl (lv_at hl 1 rfl) ?_
    refine va_get (D := (dC, dI)) (ci := 0) (v := .int (C c 5)) (C := RX0) (T := TX0) (N := 8) hx hb hts inX3_finish_X0 hown hK hP (12 + c) (wX_C lt_c) rfl 5 (by decide) (hts _ lkX3_finish_114) (fun _ h9 => h9) rfl dX3_finish_79 ?_
    refine goV (ws := (wX o k R C n f (d + 1) (upd (upd (upd (upd g (d * 5 + 0) (nI c)) (d * 5 + 1) (C c 1)) (d * 5 + 2) (nI 0)) (d * 5 + 3) (C c 6)))) (ws' := (wX o k R C n f (d + 1) (upd (upd (upd (upd (upd g (d * 5 + 0) (nI c)) (d * 5 + 1) (C c 1)) (d * 5 + 2) (nI 0)) (d * 5 + 3) (C c 6)) (d * 5 + 4) (C c 5)))) (show qFit (wX o k R C n f (d + 1) (upd (upd (upd (upd g (d * 5 + 0) (nI c)) (d * 5 + 1) (C c 1)) (d * 5 + 2) (nI 0)) (d * 5 + 3) (C c 6))) (wR (o 5) (o 6) (k 3) 5 39 (d + 1) (upd (upd (upd (upd g (d * 5 + 0) (nI c)) (d * 5 + 1) (C c 1)) (d * 5 + 2) (nI 0)) (d * 5 + 3) (C c 6))) (wR (o 5) (o 6) (k 3) 5 39 (d + 1) (upd (upd (upd (upd (upd g (d * 5 + 0) (nI c)) (d * 5 + 1) (C c 1)) (d * 5 + 2) (nI 0)) (d * 5 + 3) (C c 6)) (d * 5 + 4) (C c 5))) (wX o k R C n f (d + 1) (upd (upd (upd (upd (upd g (d * 5 + 0) (nI c)) (d * 5 + 1) (C c 1)) (d * 5 + 2) (nI 0)) (d * 5 + 3) (C c 6)) (d * 5 + 4) (C c 5))) from qFit2 hD (k1 := 5) (k2 := 6) rfl rfl (by decide) rfl) hP hD hS hA (va_runV (rm := ({ frames := 1, cells := 0, slots := 0, locals := 21 } : Room)) (As := [.int (nI d), .int (nI 4), .int (C c 5)]) (rest := []) ⟨hx, hb, hml, hown, hts⟩ (MetV.at (k_X2_set l dC dI (o 5) (o 6) (k 3) 5 39 (d + 1) (upd (upd (upd (upd g (d * 5 + 0) (nI c)) (d * 5 + 1) (C c 1)) (d * 5 + 2) (nI 0)) (d * 5 + 3) (C c 6)) (by omega) (Nat.le_of_ble_eq_true rfl) (Nat.le_of_ble_eq_true rfl) (Nat.le_of_ble_eq_true rfl) d 4 (Nat.lt_succ_self d) (by decide) (C c 5)) H.size) (cwV 3 hts gX3_finish_X2_set rfl rfl rfl (by decide +kernel) ⟨Nat.le_of_ble_eq_true rfl, Nat.le_of_ble_eq_true rfl⟩) (preWV (show va_K (dC, dI) vwCl [(k 3, .int)] s from hK.sub [3] rfl) (show va_P (dC, dI) vwCl (wR (o 5) (o 6) (k 3) 5 39 (d + 1) (upd (upd (upd (upd g (d * 5 + 0) (nI c)) (d * 5 + 1) (C c 1)) (d * 5 + 2) (nI 0)) (d * 5 + 3) (C c 6))) H from hP.sub [5, 6] rfl) (show va_D A (wR (o 5) (o 6) (k 3) 5 39 (d + 1) (upd (upd (upd (upd g (d * 5 + 0) (nI c)) (d * 5 + 1) (C c 1)) (d * 5 + 2) (nI 0)) (d * 5 + 3) (C c 6))) from hD.sub [5, 6] (by decide) rfl) (va_recv hK hP (ci := 2) (q0 := 5) rfl rfl)) rfl rfl hl.1 rfl (lv_room (Nat.le_of_ble_eq_true rfl)) dX3_finish_82 ⟨Nat.le_of_ble_eq_true rfl, Nat.le_of_ble_eq_true rfl⟩) (fun H locs hP hD hS => ?_)
    refine lv_aload_n hx hb dX3_finish_85 rfl (lv_at hl 1 rfl) ?_
    refine lv_iconst (v := nI 0) hx hb dX3_finish_86 (by decide) ?_
    refine goV (ws := (wX o k R C n f (d + 1) (upd (upd (upd (upd (upd g (d * 5 + 0) (nI c)) (d * 5 + 1) (C c 1)) (d * 5 + 2) (nI 0)) (d * 5 + 3) (C c 6)) (d * 5 + 4) (C c 5)))) (ws' := (wX o k R (up2 (up2 C c 0 (nI 0)) c 4 (nI 0)) n f (d + 1) (upd (upd (upd (upd (upd g (d * 5 + 0) (nI c)) (d * 5 + 1) (C c 1)) (d * 5 + 2) (nI 0)) (d * 5 + 3) (C c 6)) (d * 5 + 4) (C c 5)))) (show qFit (wX o k R C n f (d + 1) (upd (upd (upd (upd (upd g (d * 5 + 0) (nI c)) (d * 5 + 1) (C c 1)) (d * 5 + 2) (nI 0)) (d * 5 + 3) (C c 6)) (d * 5 + 4) (C c 5))) (wC (o (12 + c)) (C c)) [(o (12 + c), .inr (0, [.int (nI 0), .int (C c 1), .int (C c 2), .int (C c 3), .int (nI 0), .int (C c 5), .int (C c 6), .int (C c 7)]))] (wX o k R (up2 (up2 C c 0 (nI 0)) c 4 (nI 0)) n f (d + 1) (upd (upd (upd (upd (upd g (d * 5 + 0) (nI c)) (d * 5 + 1) (C c 1)) (d * 5 + 2) (nI 0)) (d * 5 + 3) (C c 6)) (d * 5 + 4) (C c 5))) from qFit1 hD (wX_C lt_c) (wX_setC lt_c _ _ _ _ _ _ _ _ (by simp [up2]) (by intro a b h; simp [up2, h]))) hP hD hS hA (va_runV (rm := ({ frames := 0, cells := 0, slots := 0, locals := 0 } : Room)) (As := [.int (nI 0)]) (rest := []) ⟨hx, hb, hml, hown, hts⟩ (MetV.at (k_X0_enter l dC dI (o (12 + c)) (C c) (nI 0)) H.size) (cwV 1 hts gX3_finish_X0_enter rfl rfl rfl (by decide +kernel) ⟨Nat.le_of_ble_eq_true rfl, Nat.le_of_ble_eq_true rfl⟩) (preWV (hK.sub [] rfl) (va_P1 hP (wX_C lt_c)) va_D1 (va_recv hK hP (ci := 0) (q0 := 12 + c) rfl (wX_C lt_c))) rfl rfl hl.1 rfl (lv_room (Nat.le_of_ble_eq_true rfl)) dX3_finish_87 ⟨Nat.le_of_ble_eq_true rfl, Nat.le_of_ble_eq_true rfl⟩) (fun H locs hP hD hS => ?_)
    exact retV hx hb hr hlk dX3_finish_90 hS (by show va_P _ _ (wX o k R (idlC C c) n f (d + 1) (fin5 g d (nI c) (C c 1) (if C c 2 = 0 then nI 0 else nI 1) (C c 6) (C c 5))) _; rw [if_pos c_48]; exact hP)
  · refine lv_iconst (v := nI 1) hx hb dX3_finish_51 (by decide) ?_
    refine lv_goto (tgt := 56) hx hb dX3_finish_52 (by decide) ?_
    refine goV (ws := (wX o k R C n f (d + 1) (upd (upd g (d * 5 + 0) (nI c)) (d * 5 + 1) (C c 1)))) (ws' := (wX o k R C n f (d + 1) (upd (upd (upd g (d * 5 + 0) (nI c)) (d * 5 + 1) (C c 1)) (d * 5 + 2) (nI 1)))) (show qFit (wX o k R C n f (d + 1) (upd (upd g (d * 5 + 0) (nI c)) (d * 5 + 1) (C c 1))) (wR (o 5) (o 6) (k 3) 5 39 (d + 1) (upd (upd g (d * 5 + 0) (nI c)) (d * 5 + 1) (C c 1))) (wR (o 5) (o 6) (k 3) 5 39 (d + 1) (upd (upd (upd g (d * 5 + 0) (nI c)) (d * 5 + 1) (C c 1)) (d * 5 + 2) (nI 1))) (wX o k R C n f (d + 1) (upd (upd (upd g (d * 5 + 0) (nI c)) (d * 5 + 1) (C c 1)) (d * 5 + 2) (nI 1))) from qFit2 hD (k1 := 5) (k2 := 6) rfl rfl (by decide) rfl) hP hD hS hA (va_runV (rm := ({ frames := 1, cells := 0, slots := 0, locals := 21 } : Room)) (As := [.int (nI d), .int (nI 2), .int (nI 1)]) (rest := []) ⟨hx, hb, hml, hown, hts⟩ (MetV.at (k_X2_set l dC dI (o 5) (o 6) (k 3) 5 39 (d + 1) (upd (upd g (d * 5 + 0) (nI c)) (d * 5 + 1) (C c 1)) (by omega) (Nat.le_of_ble_eq_true rfl) (Nat.le_of_ble_eq_true rfl) (Nat.le_of_ble_eq_true rfl) d 2 (Nat.lt_succ_self d) (by decide) (nI 1)) H.size) (cwV 3 hts gX3_finish_X2_set rfl rfl rfl (by decide +kernel) ⟨Nat.le_of_ble_eq_true rfl, Nat.le_of_ble_eq_true rfl⟩) (preWV (show va_K (dC, dI) vwCl [(k 3, .int)] s from hK.sub [3] rfl) (show va_P (dC, dI) vwCl (wR (o 5) (o 6) (k 3) 5 39 (d + 1) (upd (upd g (d * 5 + 0) (nI c)) (d * 5 + 1) (C c 1))) H from hP.sub [5, 6] rfl) (show va_D A (wR (o 5) (o 6) (k 3) 5 39 (d + 1) (upd (upd g (d * 5 + 0) (nI c)) (d * 5 + 1) (C c 1))) from hD.sub [5, 6] (by decide) rfl) (va_recv hK hP (ci := 2) (q0 := 5) rfl rfl)) rfl rfl hl.1 rfl (lv_room (Nat.le_of_ble_eq_true rfl)) dX3_finish_56 ⟨Nat.le_of_ble_eq_true rfl, Nat.le_of_ble_eq_true rfl⟩) (fun H locs hP hD hS => ?_)
    refine lv_aload_n hx hb dX3_finish_59 rfl (lv_at hl 2 rfl) ?_
    refine va_get (D := (dC, dI)) (ci := 3) (v := .ref (o 5)) (C := RX3) (T := TX3) (N := 4) hx hb hts inX3_finish_X3 hown hK hP (0) rfl rfl 3 (by decide) (hts _ lkX3_finish_32) (fun _ h9 => h9) rfl dX3_finish_60 ?_
    refine lv_iload_n hx hb dX3_finish_63 rfl (lv_at hl 0 rfl) ?_
    refine lv_iconst (v := nI 3) hx hb dX3_finish_64 (by decide) ?_
    refine lv_aload_n hx hb dX3_finish_65 rfl (lv_at hl 1 rfl) ?_
    refine va_get (D := (dC, dI)) (ci := 0) (v := .int (C c 6)) (C := RX0) (T := TX0) (N := 8) hx hb hts inX3_finish_X0 hown hK hP (12 + c) (wX_C lt_c) rfl 6 (by decide) (hts _ lkX3_finish_115) (fun _ h9 => h9) rfl dX3_finish_66 ?_
    refine goV (ws := (wX o k R C n f (d + 1) (upd (upd (upd g (d * 5 + 0) (nI c)) (d * 5 + 1) (C c 1)) (d * 5 + 2) (nI 1)))) (ws' := (wX o k R C n f (d + 1) (upd (upd (upd (upd g (d * 5 + 0) (nI c)) (d * 5 + 1) (C c 1)) (d * 5 + 2) (nI 1)) (d * 5 + 3) (C c 6)))) (show qFit (wX o k R C n f (d + 1) (upd (upd (upd g (d * 5 + 0) (nI c)) (d * 5 + 1) (C c 1)) (d * 5 + 2) (nI 1))) (wR (o 5) (o 6) (k 3) 5 39 (d + 1) (upd (upd (upd g (d * 5 + 0) (nI c)) (d * 5 + 1) (C c 1)) (d * 5 + 2) (nI 1))) (wR (o 5) (o 6) (k 3) 5 39 (d + 1) (upd (upd (upd (upd g (d * 5 + 0) (nI c)) (d * 5 + 1) (C c 1)) (d * 5 + 2) (nI 1)) (d * 5 + 3) (C c 6))) (wX o k R C n f (d + 1) (upd (upd (upd (upd g (d * 5 + 0) (nI c)) (d * 5 + 1) (C c 1)) (d * 5 + 2) (nI 1)) (d * 5 + 3) (C c 6))) from qFit2 hD (k1 := 5) (k2 := 6) rfl rfl (by decide) rfl) hP hD hS hA (va_runV (rm := ({ frames := 1, cells := 0, slots := 0, locals := 21 } : Room)) (As := [.int (nI d), .int (nI 3), .int (C c 6)]) (rest := []) ⟨hx, hb, hml, hown, hts⟩ (MetV.at (k_X2_set l dC dI (o 5) (o 6) (k 3) 5 39 (d + 1) (upd (upd (upd g (d * 5 + 0) (nI c)) (d * 5 + 1) (C c 1)) (d * 5 + 2) (nI 1)) (by omega) (Nat.le_of_ble_eq_true rfl) (Nat.le_of_ble_eq_true rfl) (Nat.le_of_ble_eq_true rfl) d 3 (Nat.lt_succ_self d) (by decide) (C c 6)) H.size) (cwV 3 hts gX3_finish_X2_set rfl rfl rfl (by decide +kernel) ⟨Nat.le_of_ble_eq_true rfl, Nat.le_of_ble_eq_true rfl⟩) (preWV (show va_K (dC, dI) vwCl [(k 3, .int)] s from hK.sub [3] rfl) (show va_P (dC, dI) vwCl (wR (o 5) (o 6) (k 3) 5 39 (d + 1) (upd (upd (upd g (d * 5 + 0) (nI c)) (d * 5 + 1) (C c 1)) (d * 5 + 2) (nI 1))) H from hP.sub [5, 6] rfl) (show va_D A (wR (o 5) (o 6) (k 3) 5 39 (d + 1) (upd (upd (upd g (d * 5 + 0) (nI c)) (d * 5 + 1) (C c 1)) (d * 5 + 2) (nI 1))) from hD.sub [5, 6] (by decide) rfl) (va_recv hK hP (ci := 2) (q0 := 5) rfl rfl)) rfl rfl hl.1 rfl (lv_room (Nat.le_of_ble_eq_true rfl)) dX3_finish_69 ⟨Nat.le_of_ble_eq_true rfl, Nat.le_of_ble_eq_true rfl⟩) (fun H locs hP hD hS => ?_)
    refine lv_aload_n hx hb dX3_finish_72 rfl (lv_at hl 2 rfl) ?_
    refine va_get (D := (dC, dI)) (ci := 3) (v := .ref (o 5)) (C := RX3) (T := TX3) (N := 4) hx hb hts inX3_finish_X3 hown hK hP (0) rfl rfl 3 (by decide) (hts _ lkX3_finish_32) (fun _ h9 => h9) rfl dX3_finish_73 ?_
    refine lv_iload_n hx hb dX3_finish_76 rfl (lv_at hl 0 rfl) ?_
    refine lv_iconst (v := nI 4) hx hb dX3_finish_77 (by decide) ?_
    refine lv_aload_n hx hb dX3_finish_78 rfl (lv_at hl 1 rfl) ?_
    refine va_get (D := (dC, dI)) (ci := 0) (v := .int (C c 5)) (C := RX0) (T := TX0) (N := 8) hx hb hts inX3_finish_X0 hown hK hP (12 + c) (wX_C lt_c) rfl 5 (by decide) (hts _ lkX3_finish_114) (fun _ h9 => h9) rfl dX3_finish_79 ?_
    refine goV (ws := (wX o k R C n f (d + 1) (upd (upd (upd (upd g (d * 5 + 0) (nI c)) (d * 5 + 1) (C c 1)) (d * 5 + 2) (nI 1)) (d * 5 + 3) (C c 6)))) (ws' := (wX o k R C n f (d + 1) (upd (upd (upd (upd (upd g (d * 5 + 0) (nI c)) (d * 5 + 1) (C c 1)) (d * 5 + 2) (nI 1)) (d * 5 + 3) (C c 6)) (d * 5 + 4) (C c 5)))) (show qFit (wX o k R C n f (d + 1) (upd (upd (upd (upd g (d * 5 + 0) (nI c)) (d * 5 + 1) (C c 1)) (d * 5 + 2) (nI 1)) (d * 5 + 3) (C c 6))) (wR (o 5) (o 6) (k 3) 5 39 (d + 1) (upd (upd (upd (upd g (d * 5 + 0) (nI c)) (d * 5 + 1) (C c 1)) (d * 5 + 2) (nI 1)) (d * 5 + 3) (C c 6))) (wR (o 5) (o 6) (k 3) 5 39 (d + 1) (upd (upd (upd (upd (upd g (d * 5 + 0) (nI c)) (d * 5 + 1) (C c 1)) (d * 5 + 2) (nI 1)) (d * 5 + 3) (C c 6)) (d * 5 + 4) (C c 5))) (wX o k R C n f (d + 1) (upd (upd (upd (upd (upd g (d * 5 + 0) (nI c)) (d * 5 + 1) (C c 1)) (d * 5 + 2) (nI 1)) (d * 5 + 3) (C c 6)) (d * 5 + 4) (C c 5))) from qFit2 hD (k1 := 5) (k2 := 6) rfl rfl (by decide) rfl) hP hD hS hA (va_runV (rm := ({ frames := 1, cells := 0, slots := 0, locals := 21 } : Room)) (As := [.int (nI d), .int (nI 4), .int (C c 5)]) (rest := []) ⟨hx, hb, hml, hown, hts⟩ (MetV.at (k_X2_set l dC dI (o 5) (o 6) (k 3) 5 39 (d + 1) (upd (upd (upd (upd g (d * 5 + 0) (nI c)) (d * 5 + 1) (C c 1)) (d * 5 + 2) (nI 1)) (d * 5 + 3) (C c 6)) (by omega) (Nat.le_of_ble_eq_true rfl) (Nat.le_of_ble_eq_true rfl) (Nat.le_of_ble_eq_true rfl) d 4 (Nat.lt_succ_self d) (by decide) (C c 5)) H.size) (cwV 3 hts gX3_finish_X2_set rfl rfl rfl (by decide +kernel) ⟨Nat.le_of_ble_eq_true rfl, Nat.le_of_ble_eq_true rfl⟩) (preWV (show va_K (dC, dI) vwCl [(k 3, .int)] s from hK.sub [3] rfl) (show va_P (dC, dI) vwCl (wR (o 5) (o 6) (k 3) 5 39 (d + 1) (upd (upd (upd (upd g (d * 5 + 0) (nI c)) (d * 5 + 1) (C c 1)) (d * 5 + 2) (nI 1)) (d * 5 + 3) (C c 6))) H from hP.sub [5, 6] rfl) (show va_D A (wR (o 5) (o 6) (k 3) 5 39 (d + 1) (upd (upd (upd (upd g (d * 5 + 0) (nI c)) (d * 5 + 1) (C c 1)) (d * 5 + 2) (nI 1)) (d * 5 + 3) (C c 6))) from hD.sub [5, 6] (by decide) rfl) (va_recv hK hP (ci := 2) (q0 := 5) rfl rfl)) rfl rfl hl.1 rfl (lv_room (Nat.le_of_ble_eq_true rfl)) dX3_finish_82 ⟨Nat.le_of_ble_eq_true rfl, Nat.le_of_ble_eq_true rfl⟩) (fun H locs hP hD hS => ?_)
    refine lv_aload_n hx hb dX3_finish_85 rfl (lv_at hl 1 rfl) ?_
    refine lv_iconst (v := nI 0) hx hb dX3_finish_86 (by decide) ?_
    refine goV (ws := (wX o k R C n f (d + 1) (upd (upd (upd (upd (upd g (d * 5 + 0) (nI c)) (d * 5 + 1) (C c 1)) (d * 5 + 2) (nI 1)) (d * 5 + 3) (C c 6)) (d * 5 + 4) (C c 5)))) (ws' := (wX o k R (up2 (up2 C c 0 (nI 0)) c 4 (nI 0)) n f (d + 1) (upd (upd (upd (upd (upd g (d * 5 + 0) (nI c)) (d * 5 + 1) (C c 1)) (d * 5 + 2) (nI 1)) (d * 5 + 3) (C c 6)) (d * 5 + 4) (C c 5)))) (show qFit (wX o k R C n f (d + 1) (upd (upd (upd (upd (upd g (d * 5 + 0) (nI c)) (d * 5 + 1) (C c 1)) (d * 5 + 2) (nI 1)) (d * 5 + 3) (C c 6)) (d * 5 + 4) (C c 5))) (wC (o (12 + c)) (C c)) [(o (12 + c), .inr (0, [.int (nI 0), .int (C c 1), .int (C c 2), .int (C c 3), .int (nI 0), .int (C c 5), .int (C c 6), .int (C c 7)]))] (wX o k R (up2 (up2 C c 0 (nI 0)) c 4 (nI 0)) n f (d + 1) (upd (upd (upd (upd (upd g (d * 5 + 0) (nI c)) (d * 5 + 1) (C c 1)) (d * 5 + 2) (nI 1)) (d * 5 + 3) (C c 6)) (d * 5 + 4) (C c 5))) from qFit1 hD (wX_C lt_c) (wX_setC lt_c _ _ _ _ _ _ _ _ (by simp [up2]) (by intro a b h; simp [up2, h]))) hP hD hS hA (va_runV (rm := ({ frames := 0, cells := 0, slots := 0, locals := 0 } : Room)) (As := [.int (nI 0)]) (rest := []) ⟨hx, hb, hml, hown, hts⟩ (MetV.at (k_X0_enter l dC dI (o (12 + c)) (C c) (nI 0)) H.size) (cwV 1 hts gX3_finish_X0_enter rfl rfl rfl (by decide +kernel) ⟨Nat.le_of_ble_eq_true rfl, Nat.le_of_ble_eq_true rfl⟩) (preWV (hK.sub [] rfl) (va_P1 hP (wX_C lt_c)) va_D1 (va_recv hK hP (ci := 0) (q0 := 12 + c) rfl (wX_C lt_c))) rfl rfl hl.1 rfl (lv_room (Nat.le_of_ble_eq_true rfl)) dX3_finish_87 ⟨Nat.le_of_ble_eq_true rfl, Nat.le_of_ble_eq_true rfl⟩) (fun H locs hP hD hS => ?_)
    exact retV hx hb hr hlk dX3_finish_90 hS (by show va_P _ _ (wX o k R (idlC C c) n f (d + 1) (fin5 g d (nI c) (C c 1) (if C c 2 = 0 then nI 0 else nI 1) (C c 6) (C c 5))) _; rw [if_neg c_48]; exact hP)
theorem lkX3_takeAsk_11 : Cond.fieldLink RX3 11 "QuorumRegister" "replicas" "[LQuorumRegister$Replica;" ∈ wsX3_takeAsk := by decide +kernel
theorem inX3_takeAsk_X3 : ∀ w ∈ wsX30, w ∈ wsX3_takeAsk := by decide +kernel
theorem lkX3_takeAsk_88 : Cond.fieldLink RX3 88 "QuorumRegister$Replica" "failed" "Z" ∈ wsX3_takeAsk := by decide +kernel
theorem inX3_takeAsk_X1 : ∀ w ∈ wsX10, w ∈ wsX3_takeAsk := by decide +kernel
theorem lkX3_takeAsk_96 : Cond.fieldLink RX3 96 "QuorumRegister$Replica" "tag" "I" ∈ wsX3_takeAsk := by decide +kernel
theorem lkX3_takeAsk_99 : Cond.fieldLink RX3 99 "QuorumRegister$Replica" "value" "I" ∈ wsX3_takeAsk := by decide +kernel
set_option maxHeartbeats 4000000 in
set_option maxRecDepth 100000 in
/-- takeAsk(c, r, serial) -/
theorem k_X3_takeAsk (l : Launch) (dC : Nat → ClassId) (dI : Nat → Nat → Nat) (o : Nat → Nat) (k : Nat → ClassId) (R C : Nat → Nat → Int32) (n : Nat) (f : Nat → Int32) (d : Nat) (g : Nat → Int32) (hn : n < 77) (c r : Nat) (lt_c : c < 3) (lt_r : r < 5) (zs : Int32) : MetV l yX3_takeAsk wsX3_takeAsk ({ frames := 3, cells := 0, slots := 0, locals := 71 } : Room) (dC, dI) vwCl (wX o k R C n f d g) (tyX k) [.ref (o 0), .int (nI c), .int (nI r), .int zs] (wS o k (stAsk (R, C, n, f, d, g) c r zs)) := by
  refine MetV.of (cc := cX3_takeAsk) (maxL := 5) (ret := none) (by decide) rfl (Nat.le_of_ble_eq_true rfl) rfl ?_
  intro p e s m below meth cd ls A hx hb hr hlk hml hown hts hK hP hD hS hA hl
  have hl : lv_has ls 5 [(0, .ref (o 0)), (1, .int (nI c)), (2, .int (nI r)), (3, .int zs)] := hl
  refine lv_aload_n hx hb dX3_takeAsk_0 rfl (lv_at hl 0 rfl) ?_
  refine va_get (D := (dC, dI)) (ci := 3) (v := .ref (o 1)) (C := RX3) (T := TX3) (N := 4) hx hb hts inX3_takeAsk_X3 hown hK hP (0) rfl rfl 0 (by decide) (hts _ lkX3_takeAsk_11) (fun _ h9 => h9) rfl dX3_takeAsk_1 ?_
  refine lv_iload_n hx hb dX3_takeAsk_4 rfl (lv_at hl 2 rfl) ?_
  refine q_aald hx hb hK hP (1) 0 (j := r) rfl rfl lt_r (Nat.le_of_ble_eq_true rfl) dX3_takeAsk_5 ?_
  refine lv_astore (lv' := [(4, .ref (o (7 + r))), (0, .ref (o 0)), (1, .int (nI c)), (2, .int (nI r)), (3, .int zs)]) hx hb dX3_takeAsk_6 hl (by decide) rfl (fun ls hl => ?_)
  refine lv_aload hx hb dX3_takeAsk_8 (lv_at hl 0 rfl) ?_
  refine va_get (D := (dC, dI)) (ci := 1) (v := .int (R r 2)) (C := RX1) (T := TX1) (N := 3) hx hb hts inX3_takeAsk_X1 hown hK hP (7 + r) (wX_R lt_r) rfl 2 (by decide) (hts _ lkX3_takeAsk_88) (fun _ h9 => h9) rfl dX3_takeAsk_10 ?_
  refine lv_if_eq (tgt := 17) hx hb dX3_takeAsk_13 (by decide) (fun c_13 => ?_) (fun c_13 => ?_)
  · refine lv_aload_n hx hb dX3_takeAsk_17 rfl (lv_at hl 1 rfl) ?_
    refine lv_iconst (v := nI 1) hx hb dX3_takeAsk_18 (by decide) ?_
    refine lv_iload_n hx hb dX3_takeAsk_19 rfl (lv_at hl 2 rfl) ?_
    refine lv_iload_n hx hb dX3_takeAsk_20 rfl (lv_at hl 3 rfl) ?_
    refine lv_iload_n hx hb dX3_takeAsk_21 rfl (lv_at hl 4 rfl) ?_
    refine lv_aload hx hb dX3_takeAsk_22 (lv_at hl 0 rfl) ?_
    refine va_get (D := (dC, dI)) (ci := 1) (v := .int (R r 0)) (C := RX1) (T := TX1) (N := 3) hx hb hts inX3_takeAsk_X1 hown hK hP (7 + r) (wX_R lt_r) rfl 0 (by decide) (hts _ lkX3_takeAsk_96) (fun _ h9 => h9) rfl dX3_takeAsk_24 ?_
    refine lv_aload hx hb dX3_takeAsk_27 (lv_at hl 0 rfl) ?_
    refine va_get (D := (dC, dI)) (ci := 1) (v := .int (R r 1)) (C := RX1) (T := TX1) (N := 3) hx hb hts inX3_takeAsk_X1 hown hK hP (7 + r) (wX_R lt_r) rfl 1 (by decide) (hts _ lkX3_takeAsk_99) (fun _ h9 => h9) rfl dX3_takeAsk_29 ?_
    refine goV (ws := (wX o k R C n f d g)) (ws' := (wX o k R C (n + 1) (snd6 f n (nI 1) (nI c) (nI r) zs (R r 0) (R r 1)) d g)) (qFit_all rfl) hP hD hS hA (va_runV (rm := ({ frames := 2, cells := 0, slots := 0, locals := 44 } : Room)) (As := [.int (nI 1), .int (nI c), .int (nI r), .int zs, .int (R r 0), .int (R r 1)]) (rest := []) ⟨hx, hb, hml, hown, hts⟩ (MetV.at (k_X3_send l dC dI o k R C n f d g hn (nI 1) (nI c) (nI r) zs (R r 0) (R r 1)) s.heap.size) (cwV 6 hts gX3_takeAsk_X3_send rfl rfl rfl (by decide +kernel) ⟨Nat.le_of_ble_eq_true rfl, Nat.le_of_ble_eq_true rfl⟩) (preWV hK hP hD (va_recv hK hP (ci := 3) (q0 := 0) rfl rfl)) rfl rfl hl.1 rfl (lv_room (Nat.le_of_ble_eq_true rfl)) dX3_takeAsk_32 ⟨Nat.le_of_ble_eq_true rfl, Nat.le_of_ble_eq_true rfl⟩) (fun H locs hP hD hS => ?_)
    exact retV hx hb hr hlk dX3_takeAsk_35 hS (by rw [stAsk, if_pos c_13]; exact hP)
  · exact retV hx hb hr hlk dX3_takeAsk_16 hS (by rw [stAsk, if_neg c_13]; exact hP)
theorem lkX3_takeStore_11 : Cond.fieldLink RX3 11 "QuorumRegister" "replicas" "[LQuorumRegister$Replica;" ∈ wsX3_takeStore := by decide +kernel
theorem inX3_takeStore_X3 : ∀ w ∈ wsX30, w ∈ wsX3_takeStore := by decide +kernel
theorem lkX3_takeStore_88 : Cond.fieldLink RX3 88 "QuorumRegister$Replica" "failed" "Z" ∈ wsX3_takeStore := by decide +kernel
theorem inX3_takeStore_X1 : ∀ w ∈ wsX10, w ∈ wsX3_takeStore := by decide +kernel
theorem lkX3_takeStore_96 : Cond.fieldLink RX3 96 "QuorumRegister$Replica" "tag" "I" ∈ wsX3_takeStore := by decide +kernel
theorem lkX3_takeStore_99 : Cond.fieldLink RX3 99 "QuorumRegister$Replica" "value" "I" ∈ wsX3_takeStore := by decide +kernel
set_option maxHeartbeats 4000000 in
set_option maxRecDepth 100000 in
/-- takeStore(c, r, serial, tag, value) -/
theorem k_X3_takeStore (l : Launch) (dC : Nat → ClassId) (dI : Nat → Nat → Nat) (o : Nat → Nat) (k : Nat → ClassId) (R C : Nat → Nat → Int32) (n : Nat) (f : Nat → Int32) (d : Nat) (g : Nat → Int32) (hn : n < 77) (c r : Nat) (lt_c : c < 3) (lt_r : r < 5) (zs zt zv : Int32) : MetV l yX3_takeStore wsX3_takeStore ({ frames := 3, cells := 0, slots := 0, locals := 71 } : Room) (dC, dI) vwCl (wX o k R C n f d g) (tyX k) [.ref (o 0), .int (nI c), .int (nI r), .int zs, .int zt, .int zv] (wS o k (stStr (R, C, n, f, d, g) c r zs zt zv)) := by
  refine MetV.of (cc := cX3_takeStore) (maxL := 7) (ret := none) (by decide) rfl (Nat.le_of_ble_eq_true rfl) rfl ?_
  intro p e s m below meth cd ls A hx hb hr hlk hml hown hts hK hP hD hS hA hl
  have hl : lv_has ls 7 [(0, .ref (o 0)), (1, .int (nI c)), (2, .int (nI r)), (3, .int zs), (4, .int zt), (5, .int zv)] := hl
  refine lv_aload_n hx hb dX3_takeStore_0 rfl (lv_at hl 0 rfl) ?_
  refine va_get (D := (dC, dI)) (ci := 3) (v := .ref (o 1)) (C := RX3) (T := TX3) (N := 4) hx hb hts inX3_takeStore_X3 hown hK hP (0) rfl rfl 0 (by decide) (hts _ lkX3_takeStore_11) (fun _ h9 => h9) rfl dX3_takeStore_1 ?_
  refine lv_iload_n hx hb dX3_takeStore_4 rfl (lv_at hl 2 rfl) ?_
  refine q_aald hx hb hK hP (1) 0 (j := r) rfl rfl lt_r (Nat.le_of_ble_eq_true rfl) dX3_takeStore_5 ?_
  refine lv_astore (lv' := [(6, .ref (o (7 + r))), (0, .ref (o 0)), (1, .int (nI c)), (2, .int (nI r)), (3, .int zs), (4, .int zt), (5, .int zv)]) hx hb dX3_takeStore_6 hl (by decide) rfl (fun ls hl => ?_)
  refine lv_aload hx hb dX3_takeStore_8 (lv_at hl 0 rfl) ?_
  refine va_get (D := (dC, dI)) (ci := 1) (v := .int (R r 2)) (C := RX1) (T := TX1) (N := 3) hx hb hts inX3_takeStore_X1 hown hK hP (7 + r) (wX_R lt_r) rfl 2 (by decide) (hts _ lkX3_takeStore_88) (fun _ h9 => h9) rfl dX3_takeStore_10 ?_
  refine lv_if_eq (tgt := 17) hx hb dX3_takeStore_13 (by decide) (fun c_13 => ?_) (fun c_13 => ?_)
  · refine lv_iload hx hb dX3_takeStore_17 (lv_at hl 5 rfl) ?_
    refine lv_aload hx hb dX3_takeStore_19 (lv_at hl 0 rfl) ?_
    refine va_get (D := (dC, dI)) (ci := 1) (v := .int (R r 0)) (C := RX1) (T := TX1) (N := 3) hx hb hts inX3_takeStore_X1 hown hK hP (7 + r) (wX_R lt_r) rfl 0 (by decide) (hts _ lkX3_takeStore_96) (fun _ h9 => h9) rfl dX3_takeStore_21 ?_
    refine lv_icmp_le (tgt := 41) hx hb dX3_takeStore_24 (by decide) (fun c_24 => ?_) (fun c_24 => ?_)
    · refine lv_aload_n hx hb dX3_takeStore_41 rfl (lv_at hl 1 rfl) ?_
      refine lv_iconst (v := nI 3) hx hb dX3_takeStore_42 (by decide) ?_
      refine lv_iload_n hx hb dX3_takeStore_43 rfl (lv_at hl 2 rfl) ?_
      refine lv_iload_n hx hb dX3_takeStore_44 rfl (lv_at hl 3 rfl) ?_
      refine lv_iload_n hx hb dX3_takeStore_45 rfl (lv_at hl 4 rfl) ?_
      refine lv_iconst (v := nI 0) hx hb dX3_takeStore_46 (by decide) ?_
      refine lv_iconst (v := nI 0) hx hb dX3_takeStore_47 (by decide) ?_
      refine goV (ws := (wX o k R C n f d g)) (ws' := (wX o k R C (n + 1) (snd6 f n (nI 3) (nI c) (nI r) zs (nI 0) (nI 0)) d g)) (qFit_all rfl) hP hD hS hA (va_runV (rm := ({ frames := 2, cells := 0, slots := 0, locals := 44 } : Room)) (As := [.int (nI 3), .int (nI c), .int (nI r), .int zs, .int (nI 0), .int (nI 0)]) (rest := []) ⟨hx, hb, hml, hown, hts⟩ (MetV.at (k_X3_send l dC dI o k R C n f d g hn (nI 3) (nI c) (nI r) zs (nI 0) (nI 0)) s.heap.size) (cwV 6 hts gX3_takeStore_X3_send rfl rfl rfl (by decide +kernel) ⟨Nat.le_of_ble_eq_true rfl, Nat.le_of_ble_eq_true rfl⟩) (preWV hK hP hD (va_recv hK hP (ci := 3) (q0 := 0) rfl rfl)) rfl rfl hl.1 rfl (lv_room (Nat.le_of_ble_eq_true rfl)) dX3_takeStore_48 ⟨Nat.le_of_ble_eq_true rfl, Nat.le_of_ble_eq_true rfl⟩) (fun H locs hP hD hS => ?_)
      exact retV hx hb hr hlk dX3_takeStore_51 hS (by rw [stStr, if_pos c_13]; show va_P _ _ (wX o k (if zt ≤ R r 0 then R else up2 (up2 R r 0 zt) r 1 zv) C (n + 1) (snd6 f n (nI 3) (nI c) (nI r) zs (nI 0) (nI 0)) d g) _; rw [if_pos c_24]; exact hP)
    · refine lv_aload hx hb dX3_takeStore_27 (lv_at hl 0 rfl) ?_
      refine lv_iload hx hb dX3_takeStore_29 (lv_at hl 5 rfl) ?_
      refine q_put (D := (dC, dI)) (ci := 1) (v := .int zt) (ty := .int) (C := RX1) (T := TX1) (N := 3) (ws' := (wX o k (up2 R r 0 zt) C n f d g)) hx hb hts inX3_takeStore_X1 tyX1 tyX1_ok nmX1 hown hK hP hD hS (7 + r) (wX_R lt_r) rfl 0 (by decide) (hts _ lkX3_takeStore_96) (fun _ h9 => h9) rfl (by decide +kernel) rfl rfl (Nat.le_of_ble_eq_true rfl) (wX_setR lt_r _ _ _ (by simp [up2]) (by intro a b h; simp [up2, h])) dX3_takeStore_31 (fun H locs hP hD hS => ?_)
      refine lv_aload hx hb dX3_takeStore_34 (lv_at hl 0 rfl) ?_
      refine lv_iload hx hb dX3_takeStore_36 (lv_at hl 6 rfl) ?_
      refine q_put (D := (dC, dI)) (ci := 1) (v := .int zv) (ty := .int) (C := RX1) (T := TX1) (N := 3) (ws' := (wX o k (up2 (up2 R r 0 zt) r 1 zv) C n f d g)) hx hb hts inX3_takeStore_X1 tyX1 tyX1_ok nmX1 hown hK hP hD hS (7 + r) (wX_R lt_r) rfl 1 (by decide) (hts _ lkX3_takeStore_99) (fun _ h9 => h9) rfl (by decide +kernel) rfl rfl (Nat.le_of_ble_eq_true rfl) (wX_setR lt_r _ _ _ (by simp [up2]) (by intro a b h; simp [up2, h])) dX3_takeStore_38 (fun H locs hP hD hS => ?_)
      refine lv_aload_n hx hb dX3_takeStore_41 rfl (lv_at hl 1 rfl) ?_
      refine lv_iconst (v := nI 3) hx hb dX3_takeStore_42 (by decide) ?_
      refine lv_iload_n hx hb dX3_takeStore_43 rfl (lv_at hl 2 rfl) ?_
      refine lv_iload_n hx hb dX3_takeStore_44 rfl (lv_at hl 3 rfl) ?_
      refine lv_iload_n hx hb dX3_takeStore_45 rfl (lv_at hl 4 rfl) ?_
      refine lv_iconst (v := nI 0) hx hb dX3_takeStore_46 (by decide) ?_
      refine lv_iconst (v := nI 0) hx hb dX3_takeStore_47 (by decide) ?_
      refine goV (ws := (wX o k (up2 (up2 R r 0 zt) r 1 zv) C n f d g)) (ws' := (wX o k (up2 (up2 R r 0 zt) r 1 zv) C (n + 1) (snd6 f n (nI 3) (nI c) (nI r) zs (nI 0) (nI 0)) d g)) (qFit_all rfl) hP hD hS hA (va_runV (rm := ({ frames := 2, cells := 0, slots := 0, locals := 44 } : Room)) (As := [.int (nI 3), .int (nI c), .int (nI r), .int zs, .int (nI 0), .int (nI 0)]) (rest := []) ⟨hx, hb, hml, hown, hts⟩ (MetV.at (k_X3_send l dC dI o k (up2 (up2 R r 0 zt) r 1 zv) C n f d g hn (nI 3) (nI c) (nI r) zs (nI 0) (nI 0)) H.size) (cwV 6 hts gX3_takeStore_X3_send rfl rfl rfl (by decide +kernel) ⟨Nat.le_of_ble_eq_true rfl, Nat.le_of_ble_eq_true rfl⟩) (preWV hK hP hD (va_recv hK hP (ci := 3) (q0 := 0) rfl rfl)) rfl rfl hl.1 rfl (lv_room (Nat.le_of_ble_eq_true rfl)) dX3_takeStore_48 ⟨Nat.le_of_ble_eq_true rfl, Nat.le_of_ble_eq_true rfl⟩) (fun H locs hP hD hS => ?_)
      exact retV hx hb hr hlk dX3_takeStore_51 hS (by rw [stStr, if_pos c_13]; show va_P _ _ (wX o k (if zt ≤ R r 0 then R else up2 (up2 R r 0 zt) r 1 zv) C (n + 1) (snd6 f n (nI 3) (nI c) (nI r) zs (nI 0) (nI 0)) d g) _; rw [if_neg c_24]; exact hP)
  · exact retV hx hb hr hlk dX3_takeStore_16 hS (by rw [stStr, if_neg c_13]; exact hP)
theorem lkX3_takeTell_18 : Cond.fieldLink RX3 18 "QuorumRegister" "clients" "[LQuorumRegister$Client;" ∈ wsX3_takeTell := by decide +kernel
theorem inX3_takeTell_X3 : ∀ w ∈ wsX30, w ∈ wsX3_takeTell := by decide +kernel
theorem lkX3_takeTell_114 : Cond.fieldLink RX3 114 "QuorumRegister$Client" "tag" "I" ∈ wsX3_takeTell := by decide +kernel
theorem inX3_takeTell_X0 : ∀ w ∈ wsX00, w ∈ wsX3_takeTell := by decide +kernel
theorem lkX3_takeTell_115 : Cond.fieldLink RX3 115 "QuorumRegister$Client" "value" "I" ∈ wsX3_takeTell := by decide +kernel
set_option maxHeartbeats 4000000 in
set_option maxRecDepth 100000 in
/-- takeTell(c, r, serial, tag, value) -/
theorem k_X3_takeTell (l : Launch) (dC : Nat → ClassId) (dI : Nat → Nat → Nat) (o : Nat → Nat) (k : Nat → ClassId) (R C : Nat → Nat → Int32) (n : Nat) (f : Nat → Int32) (d : Nat) (g : Nat → Int32) (c r : Nat) (lt_c : c < 3) (lt_r : r < 5) (a : Nat) (ha : a < 32) (hF : C c 4 = nI a) (hn : C c 0 = nI 1 → n + 5 ≤ 77) (zs zt zv : Int32) : MetV l yX3_takeTell wsX3_takeTell ({ frames := 5, cells := 0, slots := 0, locals := 119 } : Room) (dC, dI) vwCl (wX o k R C n f d g) (tyX k) [.ref (o 0), .int (nI c), .int (nI r), .int zs, .int zt, .int zv] (wS o k (stTel (R, C, n, f, d, g) c r zs zt zv)) := by
  refine MetV.of (cc := cX3_takeTell) (maxL := 7) (ret := none) (by decide) rfl (Nat.le_of_ble_eq_true rfl) rfl ?_
  intro p e s m below meth cd ls A hx hb hr hlk hml hown hts hK hP hD hS hA hl
  have hl : lv_has ls 7 [(0, .ref (o 0)), (1, .int (nI c)), (2, .int (nI r)), (3, .int zs), (4, .int zt), (5, .int zv)] := hl
  refine lv_aload_n hx hb dX3_takeTell_0 rfl (lv_at hl 0 rfl) ?_
  refine va_get (D := (dC, dI)) (ci := 3) (v := .ref (o 2)) (C := RX3) (T := TX3) (N := 4) hx hb hts inX3_takeTell_X3 hown hK hP (0) rfl rfl 1 (by decide) (hts _ lkX3_takeTell_18) (fun _ h9 => h9) rfl dX3_takeTell_1 ?_
  refine lv_iload_n hx hb dX3_takeTell_4 rfl (lv_at hl 1 rfl) ?_
  refine q_aald hx hb hK hP (2) 1 (j := c) rfl rfl lt_c (Nat.le_of_ble_eq_true rfl) dX3_takeTell_5 ?_
  refine lv_astore (lv' := [(6, .ref (o (12 + c))), (0, .ref (o 0)), (1, .int (nI c)), (2, .int (nI r)), (3, .int zs), (4, .int zt), (5, .int zv)]) hx hb dX3_takeTell_6 hl (by decide) rfl (fun ls hl => ?_)
  refine lv_aload hx hb dX3_takeTell_8 (lv_at hl 0 rfl) ?_
  refine lv_iconst (v := nI 1) hx hb dX3_takeTell_10 (by decide) ?_
  refine lv_iload_n hx hb dX3_takeTell_11 rfl (lv_at hl 3 rfl) ?_
  refine lv_iload_n hx hb dX3_takeTell_12 rfl (lv_at hl 4 rfl) ?_
  refine goS (va_runV (rm := ({ frames := 0, cells := 0, slots := 0, locals := 0 } : Room)) (As := [.int (nI 1), .int (nI r), .int zs]) (rest := []) ⟨hx, hb, hml, hown, hts⟩ (MetS.at (k_X0_awaits l dC dI (o (12 + c)) (C c) (nI 1) (nI r) zs)) (cwV 3 hts gX3_takeTell_X0_awaits rfl rfl rfl (by decide +kernel) ⟨Nat.le_of_ble_eq_true rfl, Nat.le_of_ble_eq_true rfl⟩) (preSV (hK.sub [] rfl) (va_P1 hP (wX_C lt_c)) (va_recv hK hP (ci := 0) (q0 := 12 + c) rfl (wX_C lt_c))) rfl rfl hl.1 rfl (lv_room (Nat.le_of_ble_eq_true rfl)) dX3_takeTell_13 ⟨Nat.le_of_ble_eq_true rfl, Nat.le_of_ble_eq_true rfl⟩) ?_
  refine lv_if_ne (tgt := 20) hx hb dX3_takeTell_16 (by decide) (fun c_16 => ?_) (fun c_16 => ?_)
  · have c_16 := it_yes c_16
    refine lv_aload hx hb dX3_takeTell_20 (lv_at hl 0 rfl) ?_
    refine lv_iload_n hx hb dX3_takeTell_22 rfl (lv_at hl 3 rfl) ?_
    refine goV (ws := (wX o k R C n f d g)) (ws' := (wX o k R (up2 C c 4 ((C c) 4 ||| (nI 1 <<< ((nI r) &&& 31)))) n f d g)) (show qFit (wX o k R C n f d g) (wC (o (12 + c)) (C c)) [(o (12 + c), .inr (0, [.int (C c 0), .int (C c 1), .int (C c 2), .int (C c 3), .int ((C c) 4 ||| (nI 1 <<< ((nI r) &&& 31))), .int (C c 5), .int (C c 6), .int (C c 7)]))] (wX o k R (up2 C c 4 ((C c) 4 ||| (nI 1 <<< ((nI r) &&& 31)))) n f d g) from qFit1 hD (wX_C lt_c) (wX_setC lt_c _ _ _ _ _ _ _ _ (by simp [up2]) (by intro a b h; simp [up2, h]))) hP hD hS hA (va_runV (rm := ({ frames := 0, cells := 0, slots := 0, locals := 0 } : Room)) (As := [.int (nI r)]) (rest := []) ⟨hx, hb, hml, hown, hts⟩ (MetV.at (k_X0_hear l dC dI (o (12 + c)) (C c) (nI r)) s.heap.size) (cwV 1 hts gX3_takeTell_X0_hear rfl rfl rfl (by decide +kernel) ⟨Nat.le_of_ble_eq_true rfl, Nat.le_of_ble_eq_true rfl⟩) (preWV (hK.sub [] rfl) (va_P1 hP (wX_C lt_c)) va_D1 (va_recv hK hP (ci := 0) (q0 := 12 + c) rfl (wX_C lt_c))) rfl rfl hl.1 rfl (lv_room (Nat.le_of_ble_eq_true rfl)) dX3_takeTell_23 ⟨Nat.le_of_ble_eq_true rfl, Nat.le_of_ble_eq_true rfl⟩) (fun H locs hP hD hS => ?_)
    have hP : va_P (dC, dI) vwCl (wX o k R (heaC C c (nI r)) n f d g) H := hP
    have hD : va_D A (wX o k R (heaC C c (nI r)) n f d g) := hD
    refine lv_iload hx hb dX3_takeTell_26 (lv_at hl 5 rfl) ?_
    refine lv_aload hx hb dX3_takeTell_28 (lv_at hl 0 rfl) ?_
    refine va_get (D := (dC, dI)) (ci := 0) (v := .int ((heaC C c (nI r)) c 5)) (C := RX0) (T := TX0) (N := 8) hx hb hts inX3_takeTell_X0 hown hK hP (12 + c) (wX_C lt_c) rfl 5 (by decide) (hts _ lkX3_takeTell_114) (fun _ h9 => h9) rfl dX3_takeTell_30 ?_
    refine qtop (y := C c 5) (by simp [heaC, up2]) ?_
    refine lv_icmp_le (tgt := 50) hx hb dX3_takeTell_33 (by decide) (fun c_33 => ?_) (fun c_33 => ?_)
    · rw [show heaC C c (nI r) = telC C c (nI r) zt zv from by rw [telC, if_pos c_33]] at hP hD
      refine lv_aload hx hb dX3_takeTell_50 (lv_at hl 0 rfl) ?_
      refine goS (va_runV (rm := ({ frames := 1, cells := 0, slots := 0, locals := 20 } : Room)) (As := []) (rest := []) ⟨hx, hb, hml, hown, hts⟩ (MetS.at (k_X0_hasQuorum l dC dI (o (12 + c)) ((telC C c (nI r) zt zv) c) (a ||| 2 ^ r) (hear_bits a ha r lt_r).2 (by rw [telC4, hF]; exact (hear_bits a ha r lt_r).1))) (cwV 0 hts gX3_takeTell_X0_hasQuorum rfl rfl rfl (by decide +kernel) ⟨Nat.le_of_ble_eq_true rfl, Nat.le_of_ble_eq_true rfl⟩) (preSV (hK.sub [] rfl) (va_P1 hP (wX_C lt_c)) (va_recv hK hP (ci := 0) (q0 := 12 + c) rfl (wX_C lt_c))) rfl rfl hl.1 rfl (lv_room (Nat.le_of_ble_eq_true rfl)) dX3_takeTell_52 ⟨Nat.le_of_ble_eq_true rfl, Nat.le_of_ble_eq_true rfl⟩) ?_
      refine lv_if_eq (tgt := 63) hx hb dX3_takeTell_55 (by decide) (fun c_55 => ?_) (fun c_55 => ?_)
      · have c_55 := it_no c_55
        exact retV hx hb hr hlk dX3_takeTell_63 hS (by rw [stTel, if_pos c_16, if_neg (show ¬ 3 ≤ bts (telC C c (nI r) zt zv c 4) from by rw [telC4, hF, (hear_bits a ha r lt_r).1, bts_nI (hear_bits a ha r lt_r).2]; exact c_55)]; exact hP)
      · have c_55 := it_yes c_55
        refine lv_aload_n hx hb dX3_takeTell_58 rfl (lv_at hl 1 rfl) ?_
        refine lv_iload_n hx hb dX3_takeTell_59 rfl (lv_at hl 2 rfl) ?_
        refine goV (ws := (wX o k R (telC C c (nI r) zt zv) n f d g)) (ws' := (wS o k (stSto (R, telC C c (nI r) zt zv, n, f, d, g) c))) (qFit_all rfl) hP hD hS hA (va_runV (rm := ({ frames := 4, cells := 0, slots := 0, locals := 96 } : Room)) (As := [.int (nI c)]) (rest := []) ⟨hx, hb, hml, hown, hts⟩ (MetV.at (k_X3_store l dC dI o k R (telC C c (nI r) zt zv) n f d g (hn c_16.2.1) c lt_c) H.size) (cwV 1 hts gX3_takeTell_X3_store rfl rfl rfl (by decide +kernel) ⟨Nat.le_of_ble_eq_true rfl, Nat.le_of_ble_eq_true rfl⟩) (preWV hK hP hD (va_recv hK hP (ci := 3) (q0 := 0) rfl rfl)) rfl rfl hl.1 rfl (lv_room (Nat.le_of_ble_eq_true rfl)) dX3_takeTell_60 ⟨Nat.le_of_ble_eq_true rfl, Nat.le_of_ble_eq_true rfl⟩) (fun H locs hP hD hS => ?_)
        exact retV hx hb hr hlk dX3_takeTell_63 hS (by rw [stTel, if_pos c_16, if_pos (show 3 ≤ bts (telC C c (nI r) zt zv c 4) from by rw [telC4, hF, (hear_bits a ha r lt_r).1, bts_nI (hear_bits a ha r lt_r).2]; exact c_55)]; exact hP)
    · refine lv_aload hx hb dX3_takeTell_36 (lv_at hl 0 rfl) ?_
      refine lv_iload hx hb dX3_takeTell_38 (lv_at hl 5 rfl) ?_
      refine q_put (D := (dC, dI)) (ci := 0) (v := .int zt) (ty := .int) (C := RX0) (T := TX0) (N := 8) (ws' := (wX o k R (up2 (heaC C c (nI r)) c 5 zt) n f d g)) hx hb hts inX3_takeTell_X0 tyX0 tyX0_ok nmX0 hown hK hP hD hS (12 + c) (wX_C lt_c) rfl 5 (by decide) (hts _ lkX3_takeTell_114) (fun _ h9 => h9) rfl (by decide +kernel) rfl rfl (Nat.le_of_ble_eq_true rfl) (wX_setC lt_c _ _ _ _ _ _ _ _ (by simp [up2]) (by intro a b h; simp [up2, h])) dX3_takeTell_40 (fun H locs hP hD hS => ?_)
      refine lv_aload hx hb dX3_takeTell_43 (lv_at hl 0 rfl) ?_
      refine lv_iload hx hb dX3_takeTell_45 (lv_at hl 6 rfl) ?_
      refine q_put (D := (dC, dI)) (ci := 0) (v := .int zv) (ty := .int) (C := RX0) (T := TX0) (N := 8) (ws' := (wX o k R (up2 (up2 (heaC C c (nI r)) c 5 zt) c 6 zv) n f d g)) hx hb hts inX3_takeTell_X0 tyX0 tyX0_ok nmX0 hown hK hP hD hS (12 + c) (wX_C lt_c) rfl 6 (by decide) (hts _ lkX3_takeTell_115) (fun _ h9 => h9) rfl (by decide +kernel) rfl rfl (Nat.le_of_ble_eq_true rfl) (wX_setC lt_c _ _ _ _ _ _ _ _ (by simp [up2]) (by intro a b h; simp [up2, h])) dX3_takeTell_47 (fun H locs hP hD hS => ?_)
      rw [show up2 (up2 (heaC C c (nI r)) c 5 zt) c 6 zv = telC C c (nI r) zt zv from by rw [telC, if_neg c_33]] at hP hD
      refine lv_aload hx hb dX3_takeTell_50 (lv_at hl 0 rfl) ?_
      refine goS (va_runV (rm := ({ frames := 1, cells := 0, slots := 0, locals := 20 } : Room)) (As := []) (rest := []) ⟨hx, hb, hml, hown, hts⟩ (MetS.at (k_X0_hasQuorum l dC dI (o (12 + c)) ((telC C c (nI r) zt zv) c) (a ||| 2 ^ r) (hear_bits a ha r lt_r).2 (by rw [telC4, hF]; exact (hear_bits a ha r lt_r).1))) (cwV 0 hts gX3_takeTell_X0_hasQuorum rfl rfl rfl (by decide +kernel) ⟨Nat.le_of_ble_eq_true rfl, Nat.le_of_ble_eq_true rfl⟩) (preSV (hK.sub [] rfl) (va_P1 hP (wX_C lt_c)) (va_recv hK hP (ci := 0) (q0 := 12 + c) rfl (wX_C lt_c))) rfl rfl hl.1 rfl (lv_room (Nat.le_of_ble_eq_true rfl)) dX3_takeTell_52 ⟨Nat.le_of_ble_eq_true rfl, Nat.le_of_ble_eq_true rfl⟩) ?_
      refine lv_if_eq (tgt := 63) hx hb dX3_takeTell_55 (by decide) (fun c_55 => ?_) (fun c_55 => ?_)
      · have c_55 := it_no c_55
        exact retV hx hb hr hlk dX3_takeTell_63 hS (by rw [stTel, if_pos c_16, if_neg (show ¬ 3 ≤ bts (telC C c (nI r) zt zv c 4) from by rw [telC4, hF, (hear_bits a ha r lt_r).1, bts_nI (hear_bits a ha r lt_r).2]; exact c_55)]; exact hP)
      · have c_55 := it_yes c_55
        refine lv_aload_n hx hb dX3_takeTell_58 rfl (lv_at hl 1 rfl) ?_
        refine lv_iload_n hx hb dX3_takeTell_59 rfl (lv_at hl 2 rfl) ?_
        refine goV (ws := (wX o k R (telC C c (nI r) zt zv) n f d g)) (ws' := (wS o k (stSto (R, telC C c (nI r) zt zv, n, f, d, g) c))) (qFit_all rfl) hP hD hS hA (va_runV (rm := ({ frames := 4, cells := 0, slots := 0, locals := 96 } : Room)) (As := [.int (nI c)]) (rest := []) ⟨hx, hb, hml, hown, hts⟩ (MetV.at (k_X3_store l dC dI o k R (telC C c (nI r) zt zv) n f d g (hn c_16.2.1) c lt_c) H.size) (cwV 1 hts gX3_takeTell_X3_store rfl rfl rfl (by decide +kernel) ⟨Nat.le_of_ble_eq_true rfl, Nat.le_of_ble_eq_true rfl⟩) (preWV hK hP hD (va_recv hK hP (ci := 3) (q0 := 0) rfl rfl)) rfl rfl hl.1 rfl (lv_room (Nat.le_of_ble_eq_true rfl)) dX3_takeTell_60 ⟨Nat.le_of_ble_eq_true rfl, Nat.le_of_ble_eq_true rfl⟩) (fun H locs hP hD hS => ?_)
        exact retV hx hb hr hlk dX3_takeTell_63 hS (by rw [stTel, if_pos c_16, if_pos (show 3 ≤ bts (telC C c (nI r) zt zv c 4) from by rw [telC4, hF, (hear_bits a ha r lt_r).1, bts_nI (hear_bits a ha r lt_r).2]; exact c_55)]; exact hP)
  · have c_16 := it_no c_16
    exact retV hx hb hr hlk dX3_takeTell_19 hS (by rw [stTel, if_neg c_16]; exact hP)
theorem two_of : ∀ a, a < 32 → ∀ r, r < 5 → 3 ≤ bits (a ||| 2 ^ r) → 2 ≤ bits a := by decide +kernel
theorem lkX3_takeStored_18 : Cond.fieldLink RX3 18 "QuorumRegister" "clients" "[LQuorumRegister$Client;" ∈ wsX3_takeStored := by decide +kernel
theorem inX3_takeStored_X3 : ∀ w ∈ wsX30, w ∈ wsX3_takeStored := by decide +kernel
set_option maxHeartbeats 4000000 in
set_option maxRecDepth 100000 in
/-- takeStored(c, r, serial) -/
theorem k_X3_takeStored (l : Launch) (dC : Nat → ClassId) (dI : Nat → Nat → Nat) (o : Nat → Nat) (k : Nat → ClassId) (R C : Nat → Nat → Int32) (n : Nat) (f : Nat → Int32) (d : Nat) (g : Nat → Int32) (c r : Nat) (lt_c : c < 3) (lt_r : r < 5) (a : Nat) (ha : a < 32) (hF : C c 4 = nI a) (hd : C c 0 = nI 2 → 2 ≤ bits a → d < 39) (zs : Int32) : MetV l yX3_takeStored wsX3_takeStored ({ frames := 3, cells := 0, slots := 0, locals := 67 } : Room) (dC, dI) vwCl (wX o k R C n f d g) (tyX k) [.ref (o 0), .int (nI c), .int (nI r), .int zs] (wS o k (stStd (R, C, n, f, d, g) c r zs)) := by
  refine MetV.of (cc := cX3_takeStored) (maxL := 5) (ret := none) (by decide) rfl (Nat.le_of_ble_eq_true rfl) rfl ?_
  intro p e s m below meth cd ls A hx hb hr hlk hml hown hts hK hP hD hS hA hl
  have hl : lv_has ls 5 [(0, .ref (o 0)), (1, .int (nI c)), (2, .int (nI r)), (3, .int zs)] := hl
  refine lv_aload_n hx hb dX3_takeStored_0 rfl (lv_at hl 0 rfl) ?_
  refine va_get (D := (dC, dI)) (ci := 3) (v := .ref (o 2)) (C := RX3) (T := TX3) (N := 4) hx hb hts inX3_takeStored_X3 hown hK hP (0) rfl rfl 1 (by decide) (hts _ lkX3_takeStored_18) (fun _ h9 => h9) rfl dX3_takeStored_1 ?_
  refine lv_iload_n hx hb dX3_takeStored_4 rfl (lv_at hl 1 rfl) ?_
  refine q_aald hx hb hK hP (2) 1 (j := c) rfl rfl lt_c (Nat.le_of_ble_eq_true rfl) dX3_takeStored_5 ?_
  refine lv_astore (lv' := [(4, .ref (o (12 + c))), (0, .ref (o 0)), (1, .int (nI c)), (2, .int (nI r)), (3, .int zs)]) hx hb dX3_takeStored_6 hl (by decide) rfl (fun ls hl => ?_)
  refine lv_aload hx hb dX3_takeStored_8 (lv_at hl 0 rfl) ?_
  refine lv_iconst (v := nI 2) hx hb dX3_takeStored_10 (by decide) ?_
  refine lv_iload_n hx hb dX3_takeStored_11 rfl (lv_at hl 3 rfl) ?_
  refine lv_iload_n hx hb dX3_takeStored_12 rfl (lv_at hl 4 rfl) ?_
  refine goS (va_runV (rm := ({ frames := 0, cells := 0, slots := 0, locals := 0 } : Room)) (As := [.int (nI 2), .int (nI r), .int zs]) (rest := []) ⟨hx, hb, hml, hown, hts⟩ (MetS.at (k_X0_awaits l dC dI (o (12 + c)) (C c) (nI 2) (nI r) zs)) (cwV 3 hts gX3_takeStored_X0_awaits rfl rfl rfl (by decide +kernel) ⟨Nat.le_of_ble_eq_true rfl, Nat.le_of_ble_eq_true rfl⟩) (preSV (hK.sub [] rfl) (va_P1 hP (wX_C lt_c)) (va_recv hK hP (ci := 0) (q0 := 12 + c) rfl (wX_C lt_c))) rfl rfl hl.1 rfl (lv_room (Nat.le_of_ble_eq_true rfl)) dX3_takeStored_13 ⟨Nat.le_of_ble_eq_true rfl, Nat.le_of_ble_eq_true rfl⟩) ?_
  refine lv_if_ne (tgt := 20) hx hb dX3_takeStored_16 (by decide) (fun c_16 => ?_) (fun c_16 => ?_)
  · have c_16 := it_yes c_16
    refine lv_aload hx hb dX3_takeStored_20 (lv_at hl 0 rfl) ?_
    refine lv_iload_n hx hb dX3_takeStored_22 rfl (lv_at hl 3 rfl) ?_
    refine goV (ws := (wX o k R C n f d g)) (ws' := (wX o k R (up2 C c 4 ((C c) 4 ||| (nI 1 <<< ((nI r) &&& 31)))) n f d g)) (show qFit (wX o k R C n f d g) (wC (o (12 + c)) (C c)) [(o (12 + c), .inr (0, [.int (C c 0), .int (C c 1), .int (C c 2), .int (C c 3), .int ((C c) 4 ||| (nI 1 <<< ((nI r) &&& 31))), .int (C c 5), .int (C c 6), .int (C c 7)]))] (wX o k R (up2 C c 4 ((C c) 4 ||| (nI 1 <<< ((nI r) &&& 31)))) n f d g) from qFit1 hD (wX_C lt_c) (wX_setC lt_c _ _ _ _ _ _ _ _ (by simp [up2]) (by intro a b h; simp [up2, h]))) hP hD hS hA (va_runV (rm := ({ frames := 0, cells := 0, slots := 0, locals := 0 } : Room)) (As := [.int (nI r)]) (rest := []) ⟨hx, hb, hml, hown, hts⟩ (MetV.at (k_X0_hear l dC dI (o (12 + c)) (C c) (nI r)) s.heap.size) (cwV 1 hts gX3_takeStored_X0_hear rfl rfl rfl (by decide +kernel) ⟨Nat.le_of_ble_eq_true rfl, Nat.le_of_ble_eq_true rfl⟩) (preWV (hK.sub [] rfl) (va_P1 hP (wX_C lt_c)) va_D1 (va_recv hK hP (ci := 0) (q0 := 12 + c) rfl (wX_C lt_c))) rfl rfl hl.1 rfl (lv_room (Nat.le_of_ble_eq_true rfl)) dX3_takeStored_23 ⟨Nat.le_of_ble_eq_true rfl, Nat.le_of_ble_eq_true rfl⟩) (fun H locs hP hD hS => ?_)
    have hP : va_P (dC, dI) vwCl (wX o k R (heaC C c (nI r)) n f d g) H := hP
    have hD : va_D A (wX o k R (heaC C c (nI r)) n f d g) := hD
    refine lv_aload hx hb dX3_takeStored_26 (lv_at hl 0 rfl) ?_
    refine goS (va_runV (rm := ({ frames := 1, cells := 0, slots := 0, locals := 20 } : Room)) (As := []) (rest := []) ⟨hx, hb, hml, hown, hts⟩ (MetS.at (k_X0_hasQuorum l dC dI (o (12 + c)) ((heaC C c (nI r)) c) (a ||| 2 ^ r) (hear_bits a ha r lt_r).2 (by rw [heaC4, hF]; exact (hear_bits a ha r lt_r).1))) (cwV 0 hts gX3_takeStored_X0_hasQuorum rfl rfl rfl (by decide +kernel) ⟨Nat.le_of_ble_eq_true rfl, Nat.le_of_ble_eq_true rfl⟩) (preSV (hK.sub [] rfl) (va_P1 hP (wX_C lt_c)) (va_recv hK hP (ci := 0) (q0 := 12 + c) rfl (wX_C lt_c))) rfl rfl hl.1 rfl (lv_room (Nat.le_of_ble_eq_true rfl)) dX3_takeStored_28 ⟨Nat.le_of_ble_eq_true rfl, Nat.le_of_ble_eq_true rfl⟩) ?_
    refine lv_if_eq (tgt := 39) hx hb dX3_takeStored_31 (by decide) (fun c_31 => ?_) (fun c_31 => ?_)
    · have c_31 := it_no c_31
      exact retV hx hb hr hlk dX3_takeStored_39 hS (by rw [stStd, if_pos c_16, if_neg (show ¬ 3 ≤ bts (heaC C c (nI r) c 4) from by rw [heaC4, hF, (hear_bits a ha r lt_r).1, bts_nI (hear_bits a ha r lt_r).2]; exact c_31)]; exact hP)
    · have c_31 := it_yes c_31
      refine lv_aload_n hx hb dX3_takeStored_34 rfl (lv_at hl 1 rfl) ?_
      refine lv_iload_n hx hb dX3_takeStored_35 rfl (lv_at hl 2 rfl) ?_
      refine goV (ws := (wX o k R (heaC C c (nI r)) n f d g)) (ws' := (wS o k (stFin (R, heaC C c (nI r), n, f, d, g) c))) (qFit_all rfl) hP hD hS hA (va_runV (rm := ({ frames := 2, cells := 0, slots := 0, locals := 44 } : Room)) (As := [.int (nI c)]) (rest := []) ⟨hx, hb, hml, hown, hts⟩ (MetV.at (k_X3_finish l dC dI o k R (heaC C c (nI r)) n f d g (hd c_16.2.1 (two_of a ha r lt_r c_31)) c lt_c) H.size) (cwV 1 hts gX3_takeStored_X3_finish rfl rfl rfl (by decide +kernel) ⟨Nat.le_of_ble_eq_true rfl, Nat.le_of_ble_eq_true rfl⟩) (preWV hK hP hD (va_recv hK hP (ci := 3) (q0 := 0) rfl rfl)) rfl rfl hl.1 rfl (lv_room (Nat.le_of_ble_eq_true rfl)) dX3_takeStored_36 ⟨Nat.le_of_ble_eq_true rfl, Nat.le_of_ble_eq_true rfl⟩) (fun H locs hP hD hS => ?_)
      exact retV hx hb hr hlk dX3_takeStored_39 hS (by rw [stStd, if_pos c_16, if_pos (show 3 ≤ bts (heaC C c (nI r) c 4) from by rw [heaC4, hF, (hear_bits a ha r lt_r).1, bts_nI (hear_bits a ha r lt_r).2]; exact c_31)]; exact hP)
  · have c_16 := it_no c_16
    exact retV hx hb hr hlk dX3_takeStored_19 hS (by rw [stStd, if_neg c_16]; exact hP)
