/-! the reference: deliver -/
theorem telC_ne {C : Nat → Nat → Int32} {c q b : Nat} {r t v : Int32} (h : q ≠ c) : telC C c r t v q b = C q b := by
  unfold telC heaC
  split <;> simp [up2, h]
theorem heaC_ne {C : Nat → Nat → Int32} {c q b : Nat} {r : Int32} (h : q ≠ c) : heaC C c r q b = C q b := by simp [heaC, up2, h]
theorem stoC_ne {C : Nat → Nat → Int32} {c q b : Nat} (h : q ≠ c) : stoC C c q b = C q b := by
  unfold stoC wriC
  split <;> simp [up2, h]
theorem idlC_ne {C : Nat → Nat → Int32} {c q b : Nat} (h : q ≠ c) : idlC C c q b = C q b := by simp [idlC, up2, h]
theorem num_a {x y : Int32} (h : x ≤ y) : y + nI 1 = nI 1 + (if x < y then y else x) := by
  rw [Int32.add_comm]
  by_cases q : x < y
  · rw [if_pos q]
  · rw [if_neg q, Int32.le_antisymm h (Int32.not_lt.mp q)]
theorem num_b {x y : Int32} (h : ¬ x ≤ y) : x + nI 1 = nI 1 + (if x < y then y else x) := by
  rw [Int32.add_comm, if_neg (fun q => h (Int32.le_of_lt q))]
theorem sto_a {C : Nat → Nat → Int32} {c : Nat} (h : C c 2 = 0) : stoC C c = up2 (up2 C c 0 (nI 2)) c 4 (nI 0) := by rw [stoC, if_pos h]
theorem sto_b {C : Nat → Nat → Int32} {c : Nat} (h : ¬ C c 2 = 0) : stoC C c = up2 (up2 (wriC C c) c 0 (nI 2)) c 4 (nI 0) := by rw [stoC, if_neg h]
theorem sto4 {C : Nat → Nat → Int32} {c : Nat} : stoC C c c 4 = nI 0 := by simp [stoC, up2]
theorem ask_no {σ : St} {c r : Nat} {s : Int32} (h : ¬ σ.1 r 2 = 0) : stAsk σ c r s = σ := if_neg h
theorem str_no {σ : St} {c r : Nat} {s t v : Int32} (h : ¬ σ.1 r 2 = 0) : stStr σ c r s t v = σ := if_neg h
theorem tel_no {σ : St} {c r : Nat} {s t v : Int32} (h : ¬ aw (σ.2.1 c) (nI 1) (nI r) s) : stTel σ c r s t v = σ := if_neg h
theorem std_no {σ : St} {c r : Nat} {s : Int32} (h : ¬ aw (σ.2.1 c) (nI 2) (nI r) s) : stStd σ c r s = σ := if_neg h
theorem dl_v {σ σ' : St} {i : Nat} (hi : i < σ.2.2.1) (hn : σ.2.2.1 < 2 ^ 31) (e : dlS σ (nI i) = σ') : dlX σ (nI i) = nI σ'.2.2.1 - nI (σ.2.2.1 - 1) := by rw [dlX, if_pos (okI_nI hi hn), e]
theorem cnF_01 {R : Nat → Nat → Int32} {r : Nat} {t v : Int32} : cnF (up2 (up2 R r 0 t) r 1 v) 5 = cnF R 5 := by simp [cnF, up2]
theorem nq_u {σ : St} {R C T : Nat → Nat → Int32} {n d : Nat} {f g an : Nat → Int32} {c a : Nat} {p0 : Int32} (hA : ∀ c, c < 3 → ¬ C c 0 = 0 → an c = C c 4) (e : dlS σ p0 = (R, T, n, f, d, g)) (h4 : T c 4 = nI a) (n_T : ∀ q b, q ≠ c → T q b = C q b) : ∀ q, q < 3 → ¬ (dlS σ p0).2.1 q 0 = 0 → upd an c (nI a) q = (dlS σ p0).2.1 q 4 := by
  rw [e]
  intro q lq hq
  show upd an c (nI a) q = T q 4
  by_cases z : q = c
  · rw [z, pk_us]; exact h4.symm
  · rw [pk_un z, n_T q 4 z]; exact hA q lq (fun y => hq (by show T q 0 = 0; rw [n_T q 0 z]; exact y))
theorem st_u {σ : St} {R C T : Nat → Nat → Int32} {n d : Nat} {f g an : Nat → Int32} {c : Nat} {p0 x : Int32} (hA : ∀ c, c < 3 → ¬ C c 0 = 0 → an c = C c 4) (e : dlS σ p0 = stSto (R, T, n, f, d, g) c) (n_T : ∀ q b, q ≠ c → T q b = C q b) : ∀ q, q < 3 → ¬ (dlS σ p0).2.1 q 0 = 0 → upd (upd an c x) c (nI 0) q = (dlS σ p0).2.1 q 4 := by
  rw [e]
  intro q lq hq
  show upd (upd an c x) c (nI 0) q = stoC T c q 4
  by_cases z : q = c
  · rw [z, pk_us, sto4]
  · rw [pk_un z, pk_un z, stoC_ne z, n_T q 4 z]; exact hA q lq (fun y => hq (by show stoC T c q 0 = 0; rw [stoC_ne z, n_T q 0 z]; exact y))
theorem fi_u {σ : St} {R C T : Nat → Nat → Int32} {n d : Nat} {f g an : Nat → Int32} {c : Nat} {p0 x : Int32} (hA : ∀ c, c < 3 → ¬ C c 0 = 0 → an c = C c 4) (e : dlS σ p0 = stFin (R, T, n, f, d, g) c) (n_T : ∀ q b, q ≠ c → T q b = C q b) : ∀ q, q < 3 → ¬ (dlS σ p0).2.1 q 0 = 0 → upd an c x q = (dlS σ p0).2.1 q 4 := by
  rw [e]
  intro q lq hq
  show upd an c x q = idlC T c q 4
  by_cases z : q = c
  · exact absurd (show idlC T c q 0 = 0 by rw [z]; simp [idlC, up2]; rfl) hq
  · rw [pk_un z, idlC_ne z, n_T q 4 z]; exact hA q lq (fun y => hq (by show idlC T c q 0 = 0; rw [idlC_ne z, n_T q 0 z]; exact y))
theorem lkX4_deliver_50 : Cond.fieldLink RX4 50 "QuorumRegisterModel" "count" "I" ∈ wsX4_deliver := by decide +kernel
theorem inX4_deliver_X4 : ∀ w ∈ wsX40, w ∈ wsX4_deliver := by decide +kernel
theorem lkX4_deliver_44 : Cond.fieldLink RX4 44 "QuorumRegisterModel" "pool" "[I" ∈ wsX4_deliver := by decide +kernel
theorem lkX4_deliver_16 : Cond.fieldLink RX4 16 "QuorumRegisterModel" "failed" "[Z" ∈ wsX4_deliver := by decide +kernel
theorem lkX4_deliver_7 : Cond.fieldLink RX4 7 "QuorumRegisterModel" "tag" "[I" ∈ wsX4_deliver := by decide +kernel
theorem lkX4_deliver_13 : Cond.fieldLink RX4 13 "QuorumRegisterModel" "value" "[I" ∈ wsX4_deliver := by decide +kernel
theorem lkX4_deliver_23 : Cond.fieldLink RX4 23 "QuorumRegisterModel" "serial" "[I" ∈ wsX4_deliver := by decide +kernel
theorem lkX4_deliver_20 : Cond.fieldLink RX4 20 "QuorumRegisterModel" "phase" "[I" ∈ wsX4_deliver := by decide +kernel
theorem lkX4_deliver_32 : Cond.fieldLink RX4 32 "QuorumRegisterModel" "answers" "[I" ∈ wsX4_deliver := by decide +kernel
theorem lkX4_deliver_35 : Cond.fieldLink RX4 35 "QuorumRegisterModel" "seenTag" "[I" ∈ wsX4_deliver := by decide +kernel
theorem lkX4_deliver_26 : Cond.fieldLink RX4 26 "QuorumRegisterModel" "writes" "[Z" ∈ wsX4_deliver := by decide +kernel
theorem lkX4_deliver_38 : Cond.fieldLink RX4 38 "QuorumRegisterModel" "seenValue" "[I" ∈ wsX4_deliver := by decide +kernel
theorem lkX4_deliver_41 : Cond.fieldLink RX4 41 "QuorumRegisterModel" "made" "[I" ∈ wsX4_deliver := by decide +kernel
theorem lkX4_deliver_29 : Cond.fieldLink RX4 29 "QuorumRegisterModel" "wanted" "[I" ∈ wsX4_deliver := by decide +kernel
theorem lkX4_deliver_78 : Cond.fieldLink RX4 78 "QuorumRegisterModel" "finished" "I" ∈ wsX4_deliver := by decide +kernel
theorem lkX4_deliver_47 : Cond.fieldLink RX4 47 "QuorumRegisterModel" "done" "[I" ∈ wsX4_deliver := by decide +kernel
set_option maxHeartbeats 4000000 in
set_option maxRecDepth 100000 in
/-- deliver(i) -/
theorem k_X4_deliver (l : Launch) (dC : Nat → ClassId) (dI : Nat → Nat → Nat) (o : Nat → Nat) (k : Nat → ClassId) (R C : Nat → Nat → Int32) (an : Nat → Int32) (n : Nat) (f : Nat → Int32) (d : Nat) (g : Nat → Int32) (hn : n ≤ 77) (hm : ∀ i, i < n → (∃ c, c < 3 ∧ f (i * 6 + 1) = nI c) ∧ (∃ r, r < 5 ∧ f (i * 6 + 2) = nI r)) (ha : ∀ c, c < 3 → ∃ a, a < 32 ∧ C c 4 = nI a) (hd : d ≤ 39) (hAn : ∀ c, c < 3 → ¬ C c 0 = 0 → an c = C c 4) (p0 : Int32) : MetJ l yX4_deliver wsX4_deliver ({ frames := 2, cells := 0, slots := 0, locals := 52 } : Room) (dC, dI) vwCl (wMs o k (R, C, n, f, d, g) an) (tyM k) [.ref (o 0), .int p0] (dlX (R, C, n, f, d, g) p0) (fun u => wMs o k (dlS (R, C, n, f, d, g) p0) u) (fun u => ∀ c, c < 3 → ¬ (dlS (R, C, n, f, d, g) p0).2.1 c 0 = 0 → u c = (dlS (R, C, n, f, d, g) p0).2.1 c 4) := by
  refine MetJ.of (cc := cX4_deliver) (maxL := 10) (ret := (some .int)) (by decide) rfl (Nat.le_of_ble_eq_true rfl) rfl ?_
  intro p e s m below meth cd ls A hx hb hr hlk hml hown hts hK hP hD hS hA hl
  have hl : lv_has ls 10 [(0, .ref (o 0)), (1, .int p0)] := hl
  refine lv_iload_n hx hb dX4_deliver_0 rfl (lv_at hl 1 rfl) ?_
  refine lv_iconst (v := nI 0) hx hb dX4_deliver_1 (by decide) ?_
  refine lv_aload_n hx hb dX4_deliver_2 rfl (lv_at hl 0 rfl) ?_
  refine va_get (D := (dC, dI)) (ci := 4) (v := .int (nI n)) (C := RX4) (T := TX4) (N := 16) hx hb hts inX4_deliver_X4 hown hK hP (0) rfl rfl 13 (by decide) (hts _ lkX4_deliver_50) (fun _ h9 => h9) rfl dX4_deliver_3 ?_
  refine lv_iconst (v := nI 1) hx hb dX4_deliver_6 (by decide) ?_
  refine lv_isub hx hb dX4_deliver_7 ?_
  refine goS (va_runS (rm := ({ frames := 0, cells := 0, slots := 0, locals := 0 } : Room)) (As := [.int p0, .int (nI 0), .int ((nI n) - (nI 1))]) (rest := []) ⟨hx, hb, hml, hown, hts⟩ (MetS.at (k_X4_within l dC dI p0 (nI 0) ((nI n) - (nI 1)))) (va_cwS 3 hts gX4_deliver_X4_within rfl rfl rfl (by decide +kernel) ⟨Nat.le_of_ble_eq_true rfl, Nat.le_of_ble_eq_true rfl⟩) (preSS (hK.sub [] rfl) va_P0) rfl rfl hl.1 rfl (lv_room (Nat.le_of_ble_eq_true rfl)) dX4_deliver_8 ⟨Nat.le_of_ble_eq_true rfl, Nat.le_of_ble_eq_true rfl⟩) ?_
  refine lv_if_ne (tgt := 16) hx hb dX4_deliver_11 (by decide) (fun c_11 => ?_) (fun c_11 => ?_)
  · have c_11 := it_yes c_11
    have c_11 := (wi_n (x := p0) n (by omega)).mp c_11
    obtain ⟨i, lt_i, rfl⟩ := okI_of c_11 (by omega)
    obtain ⟨⟨c, lt_c, e_c⟩, ⟨r, lt_r, e_r⟩⟩ := hm i lt_i
    obtain ⟨a, lt_a, e_a⟩ := ha c lt_c
    refine lv_aload_n hx hb dX4_deliver_16 rfl (lv_at hl 0 rfl) ?_
    refine va_get (D := (dC, dI)) (ci := 4) (v := .ref (o 12)) (C := RX4) (T := TX4) (N := 16) hx hb hts inX4_deliver_X4 hown hK hP (0) rfl rfl 12 (by decide) (hts _ lkX4_deliver_44) (fun _ h9 => h9) rfl dX4_deliver_17 ?_
    refine lv_bipush (v := nI 6) hx hb dX4_deliver_20 (by decide) ?_
    refine lv_iload_n hx hb dX4_deliver_22 rfl (lv_at hl 1 rfl) ?_
    refine lv_imul hx hb dX4_deliver_23 ?_
    refine qtop (y := nI (i * 6)) (mulc _ _) ?_
    refine q_iald hx hb hK hP (12) 11 (j := i * 6) rfl rfl (by omega) (Nat.le_of_ble_eq_true rfl) dX4_deliver_24 ?_
    refine lv_istore_n (lv' := [(2, .int (f (i * 6))), (0, .ref (o 0)), (1, .int (nI i))]) hx hb dX4_deliver_25 rfl hl (by decide) rfl (fun ls hl => ?_)
    refine lv_aload_n hx hb dX4_deliver_26 rfl (lv_at hl 1 rfl) ?_
    refine va_get (D := (dC, dI)) (ci := 4) (v := .ref (o 12)) (C := RX4) (T := TX4) (N := 16) hx hb hts inX4_deliver_X4 hown hK hP (0) rfl rfl 12 (by decide) (hts _ lkX4_deliver_44) (fun _ h9 => h9) rfl dX4_deliver_27 ?_
    refine lv_bipush (v := nI 6) hx hb dX4_deliver_30 (by decide) ?_
    refine lv_iload_n hx hb dX4_deliver_32 rfl (lv_at hl 2 rfl) ?_
    refine lv_imul hx hb dX4_deliver_33 ?_
    refine qtop (y := nI (i * 6)) (mulc _ _) ?_
    refine lv_iconst (v := nI 1) hx hb dX4_deliver_34 (by decide) ?_
    refine lv_iadd hx hb dX4_deliver_35 ?_
    refine qtop (y := nI ((i * 6) + 1)) (nI_add _ _) ?_
    refine q_iald hx hb hK hP (12) 11 (j := (i * 6) + 1) rfl rfl (by omega) (Nat.le_of_ble_eq_true rfl) dX4_deliver_36 ?_
    refine qtop (y := nI c) e_c ?_
    refine lv_istore_n (lv' := [(3, .int (nI c)), (2, .int (f (i * 6))), (0, .ref (o 0)), (1, .int (nI i))]) hx hb dX4_deliver_37 rfl hl (by decide) rfl (fun ls hl => ?_)
    refine lv_aload_n hx hb dX4_deliver_38 rfl (lv_at hl 2 rfl) ?_
    refine va_get (D := (dC, dI)) (ci := 4) (v := .ref (o 12)) (C := RX4) (T := TX4) (N := 16) hx hb hts inX4_deliver_X4 hown hK hP (0) rfl rfl 12 (by decide) (hts _ lkX4_deliver_44) (fun _ h9 => h9) rfl dX4_deliver_39 ?_
    refine lv_bipush (v := nI 6) hx hb dX4_deliver_42 (by decide) ?_
    refine lv_iload_n hx hb dX4_deliver_44 rfl (lv_at hl 3 rfl) ?_
    refine lv_imul hx hb dX4_deliver_45 ?_
    refine qtop (y := nI (i * 6)) (mulc _ _) ?_
    refine lv_iconst (v := nI 2) hx hb dX4_deliver_46 (by decide) ?_
    refine lv_iadd hx hb dX4_deliver_47 ?_
    refine qtop (y := nI ((i * 6) + 2)) (nI_add _ _) ?_
    refine q_iald hx hb hK hP (12) 11 (j := (i * 6) + 2) rfl rfl (by omega) (Nat.le_of_ble_eq_true rfl) dX4_deliver_48 ?_
    refine qtop (y := nI r) e_r ?_
    refine lv_istore (lv' := [(4, .int (nI r)), (3, .int (nI c)), (2, .int (f (i * 6))), (0, .ref (o 0)), (1, .int (nI i))]) hx hb dX4_deliver_49 hl (by decide) rfl (fun ls hl => ?_)
    refine lv_aload_n hx hb dX4_deliver_51 rfl (lv_at hl 3 rfl) ?_
    refine va_get (D := (dC, dI)) (ci := 4) (v := .ref (o 12)) (C := RX4) (T := TX4) (N := 16) hx hb hts inX4_deliver_X4 hown hK hP (0) rfl rfl 12 (by decide) (hts _ lkX4_deliver_44) (fun _ h9 => h9) rfl dX4_deliver_52 ?_
    refine lv_bipush (v := nI 6) hx hb dX4_deliver_55 (by decide) ?_
    refine lv_iload_n hx hb dX4_deliver_57 rfl (lv_at hl 4 rfl) ?_
    refine lv_imul hx hb dX4_deliver_58 ?_
    refine qtop (y := nI (i * 6)) (mulc _ _) ?_
    refine lv_iconst (v := nI 3) hx hb dX4_deliver_59 (by decide) ?_
    refine lv_iadd hx hb dX4_deliver_60 ?_
    refine qtop (y := nI ((i * 6) + 3)) (nI_add _ _) ?_
    refine q_iald hx hb hK hP (12) 11 (j := (i * 6) + 3) rfl rfl (by omega) (Nat.le_of_ble_eq_true rfl) dX4_deliver_61 ?_
    refine lv_istore (lv' := [(5, .int (f ((i * 6) + 3))), (4, .int (nI r)), (3, .int (nI c)), (2, .int (f (i * 6))), (0, .ref (o 0)), (1, .int (nI i))]) hx hb dX4_deliver_62 hl (by decide) rfl (fun ls hl => ?_)
    refine lv_aload_n hx hb dX4_deliver_64 rfl (lv_at hl 4 rfl) ?_
    refine va_get (D := (dC, dI)) (ci := 4) (v := .ref (o 12)) (C := RX4) (T := TX4) (N := 16) hx hb hts inX4_deliver_X4 hown hK hP (0) rfl rfl 12 (by decide) (hts _ lkX4_deliver_44) (fun _ h9 => h9) rfl dX4_deliver_65 ?_
    refine lv_bipush (v := nI 6) hx hb dX4_deliver_68 (by decide) ?_
    refine lv_iload_n hx hb dX4_deliver_70 rfl (lv_at hl 5 rfl) ?_
    refine lv_imul hx hb dX4_deliver_71 ?_
    refine qtop (y := nI (i * 6)) (mulc _ _) ?_
    refine lv_iconst (v := nI 4) hx hb dX4_deliver_72 (by decide) ?_
    refine lv_iadd hx hb dX4_deliver_73 ?_
    refine qtop (y := nI ((i * 6) + 4)) (nI_add _ _) ?_
    refine q_iald hx hb hK hP (12) 11 (j := (i * 6) + 4) rfl rfl (by omega) (Nat.le_of_ble_eq_true rfl) dX4_deliver_74 ?_
    refine lv_istore (lv' := [(6, .int (f ((i * 6) + 4))), (5, .int (f ((i * 6) + 3))), (4, .int (nI r)), (3, .int (nI c)), (2, .int (f (i * 6))), (0, .ref (o 0)), (1, .int (nI i))]) hx hb dX4_deliver_75 hl (by decide) rfl (fun ls hl => ?_)
    refine lv_aload_n hx hb dX4_deliver_77 rfl (lv_at hl 5 rfl) ?_
    refine va_get (D := (dC, dI)) (ci := 4) (v := .ref (o 12)) (C := RX4) (T := TX4) (N := 16) hx hb hts inX4_deliver_X4 hown hK hP (0) rfl rfl 12 (by decide) (hts _ lkX4_deliver_44) (fun _ h9 => h9) rfl dX4_deliver_78 ?_
    refine lv_bipush (v := nI 6) hx hb dX4_deliver_81 (by decide) ?_
    refine lv_iload_n hx hb dX4_deliver_83 rfl (lv_at hl 6 rfl) ?_
    refine lv_imul hx hb dX4_deliver_84 ?_
    refine qtop (y := nI (i * 6)) (mulc _ _) ?_
    refine lv_iconst (v := nI 5) hx hb dX4_deliver_85 (by decide) ?_
    refine lv_iadd hx hb dX4_deliver_86 ?_
    refine qtop (y := nI ((i * 6) + 5)) (nI_add _ _) ?_
    refine q_iald hx hb hK hP (12) 11 (j := (i * 6) + 5) rfl rfl (by omega) (Nat.le_of_ble_eq_true rfl) dX4_deliver_87 ?_
    refine lv_istore (lv' := [(7, .int (f ((i * 6) + 5))), (6, .int (f ((i * 6) + 4))), (5, .int (f ((i * 6) + 3))), (4, .int (nI r)), (3, .int (nI c)), (2, .int (f (i * 6))), (0, .ref (o 0)), (1, .int (nI i))]) hx hb dX4_deliver_88 hl (by decide) rfl (fun ls hl => ?_)
    refine lv_aload_n hx hb dX4_deliver_90 rfl (lv_at hl 6 rfl) ?_
    refine lv_iload_n hx hb dX4_deliver_91 rfl (lv_at hl 7 rfl) ?_
    refine goV (ws := (wMs o k (R, C, n, f, d, g) an)) (ws' := (wMc o k (fun j => R j 0) (fun j => R j 1) (fun j => R j 2) (fun j => C j 0) (fun j => C j 1) (fun j => C j 2) (fun j => C j 3) an (fun j => C j 5) (fun j => C j 6) (fun j => C j 7) (drp f n i) g (cnF R 5) (n - 1) d)) (qFit_all rfl) hP hD hS hA (va_runV (rm := ({ frames := 0, cells := 0, slots := 0, locals := 0 } : Room)) (As := [.int (nI i)]) (rest := []) ⟨hx, hb, hml, hown, hts⟩ (MetV.at (k_X4_drop l dC dI o k (fun j => R j 0) (fun j => R j 1) (fun j => R j 2) (fun j => C j 0) (fun j => C j 1) (fun j => C j 2) (fun j => C j 3) an (fun j => C j 5) (fun j => C j 6) (fun j => C j 7) f g (cnF R 5) n d (by omega) i lt_i) s.heap.size) (cwV 1 hts gX4_deliver_X4_drop rfl rfl rfl (by decide +kernel) ⟨Nat.le_of_ble_eq_true rfl, Nat.le_of_ble_eq_true rfl⟩) (preWV hK hP hD (va_recv hK hP (ci := 4) (q0 := 0) rfl rfl)) rfl rfl hl.1 rfl (lv_room (Nat.le_of_ble_eq_true rfl)) dX4_deliver_92 ⟨Nat.le_of_ble_eq_true rfl, Nat.le_of_ble_eq_true rfl⟩) (fun H locs hP hD hS => ?_)
    refine lv_aload_n hx hb dX4_deliver_95 rfl (lv_at hl 6 rfl) ?_
    refine va_get (D := (dC, dI)) (ci := 4) (v := .int (nI (n - 1))) (C := RX4) (T := TX4) (N := 16) hx hb hts inX4_deliver_X4 hown hK hP (0) rfl rfl 13 (by decide) (hts _ lkX4_deliver_50) (fun _ h9 => h9) rfl dX4_deliver_96 ?_
    refine lv_istore (lv' := [(8, .int (nI (n - 1))), (7, .int (f ((i * 6) + 5))), (6, .int (f ((i * 6) + 4))), (5, .int (f ((i * 6) + 3))), (4, .int (nI r)), (3, .int (nI c)), (2, .int (f (i * 6))), (0, .ref (o 0)), (1, .int (nI i))]) hx hb dX4_deliver_99 hl (by decide) rfl (fun ls hl => ?_)
    by_cases h_0 : f (i * 6 + 0) = nI 0
    · have e_d : dlS (R, C, n, f, d, g) (nI i) = stAsk (R, C, n - 1, drp f n i, d, g) c r (f (i * 6 + 3)) := (dlS_at (R := R) (C := C) (d := d) (g := g) lt_i (by omega) lt_c lt_r e_c e_r).trans (dlM_0 h_0)
      have hl : lv_has ls 10 [(8, .int (nI (n - 1))), (7, .int (f ((i * 6) + 5))), (6, .int (f ((i * 6) + 4))), (5, .int (f ((i * 6) + 3))), (4, .int (nI r)), (3, .int (nI c)), (2, .int (nI 0)), (0, .ref (o 0)), (1, .int (nI i))] := by rw [show f (i * 6) = nI 0 from h_0] at hl; exact hl
      refine lv_iload_n hx hb dX4_deliver_101 rfl (lv_at hl 6 rfl) ?_
      refine lv_if_eq (tgt := 110) hx hb dX4_deliver_102 (by decide) (fun _ => ?_) (fun c9 => absurd (by decide +kernel) c9)
      refine lv_aload_n hx hb dX4_deliver_110 rfl (lv_at hl 7 rfl) ?_
      refine va_get (D := (dC, dI)) (ci := 4) (v := .ref (o 3)) (C := RX4) (T := TX4) (N := 16) hx hb hts inX4_deliver_X4 hown hK hP (0) rfl rfl 2 (by decide) (hts _ lkX4_deliver_16) (fun _ h9 => h9) rfl dX4_deliver_111 ?_
      refine lv_iload hx hb dX4_deliver_114 (lv_at hl 4 rfl) ?_
      refine q_zald hx hb hK hP (3) 2 (j := r) rfl rfl lt_r (Nat.le_of_ble_eq_true rfl) dX4_deliver_116 ?_
      refine lv_if_eq (tgt := 122) hx hb dX4_deliver_117 (by decide) (fun c_117_0 => ?_) (fun c_117_0 => ?_)
      · refine lv_iload_n hx hb dX4_deliver_122 rfl (lv_at hl 6 rfl) ?_
        refine lv_if_ne (tgt := 153) hx hb dX4_deliver_123 (by decide) (fun c9 => absurd (by decide +kernel) c9) (fun _ => ?_)
        refine lv_aload_n hx hb dX4_deliver_126 rfl (lv_at hl 7 rfl) ?_
        refine lv_iconst (v := nI 1) hx hb dX4_deliver_127 (by decide) ?_
        refine lv_iload_n hx hb dX4_deliver_128 rfl (lv_at hl 5 rfl) ?_
        refine lv_iload hx hb dX4_deliver_129 (lv_at hl 4 rfl) ?_
        refine lv_iload hx hb dX4_deliver_131 (lv_at hl 3 rfl) ?_
        refine lv_aload_n hx hb dX4_deliver_133 rfl (lv_at hl 7 rfl) ?_
        refine va_get (D := (dC, dI)) (ci := 4) (v := .ref (o 1)) (C := RX4) (T := TX4) (N := 16) hx hb hts inX4_deliver_X4 hown hK hP (0) rfl rfl 0 (by decide) (hts _ lkX4_deliver_7) (fun _ h9 => h9) rfl dX4_deliver_134 ?_
        refine lv_iload hx hb dX4_deliver_137 (lv_at hl 4 rfl) ?_
        refine q_iald hx hb hK hP (1) 0 (j := r) rfl rfl lt_r (Nat.le_of_ble_eq_true rfl) dX4_deliver_139 ?_
        refine lv_aload_n hx hb dX4_deliver_140 rfl (lv_at hl 7 rfl) ?_
        refine va_get (D := (dC, dI)) (ci := 4) (v := .ref (o 2)) (C := RX4) (T := TX4) (N := 16) hx hb hts inX4_deliver_X4 hown hK hP (0) rfl rfl 1 (by decide) (hts _ lkX4_deliver_13) (fun _ h9 => h9) rfl dX4_deliver_141 ?_
        refine lv_iload hx hb dX4_deliver_144 (lv_at hl 4 rfl) ?_
        refine q_iald hx hb hK hP (2) 1 (j := r) rfl rfl lt_r (Nat.le_of_ble_eq_true rfl) dX4_deliver_146 ?_
        refine goV (ws := (wMc o k (fun j => R j 0) (fun j => R j 1) (fun j => R j 2) (fun j => C j 0) (fun j => C j 1) (fun j => C j 2) (fun j => C j 3) an (fun j => C j 5) (fun j => C j 6) (fun j => C j 7) (drp f n i) g (cnF R 5) (n - 1) d)) (ws' := (wMc o k (fun j => R j 0) (fun j => R j 1) (fun j => R j 2) (fun j => C j 0) (fun j => C j 1) (fun j => C j 2) (fun j => C j 3) an (fun j => C j 5) (fun j => C j 6) (fun j => C j 7) (snd6 (drp f n i) (n - 1) (nI 1) (nI c) (nI r) (f ((i * 6) + 3)) (R r 0) (R r 1)) g (cnF R 5) ((n - 1) + 1) d)) (qFit_all rfl) hP hD hS hA (va_runV (rm := ({ frames := 0, cells := 0, slots := 0, locals := 0 } : Room)) (As := [.int (nI 1), .int (nI c), .int (nI r), .int (f ((i * 6) + 3)), .int (R r 0), .int (R r 1)]) (rest := []) ⟨hx, hb, hml, hown, hts⟩ (MetV.at (k_X4_send l dC dI o k (fun j => R j 0) (fun j => R j 1) (fun j => R j 2) (fun j => C j 0) (fun j => C j 1) (fun j => C j 2) (fun j => C j 3) an (fun j => C j 5) (fun j => C j 6) (fun j => C j 7) (drp f n i) g (cnF R 5) (n - 1) d (by omega) (nI 1) (nI c) (nI r) (f ((i * 6) + 3)) (R r 0) (R r 1)) H.size) (cwV 6 hts gX4_deliver_X4_send rfl rfl rfl (by decide +kernel) ⟨Nat.le_of_ble_eq_true rfl, Nat.le_of_ble_eq_true rfl⟩) (preWV hK hP hD (va_recv hK hP (ci := 4) (q0 := 0) rfl rfl)) rfl rfl hl.1 rfl (lv_room (Nat.le_of_ble_eq_true rfl)) dX4_deliver_147 ⟨Nat.le_of_ble_eq_true rfl, Nat.le_of_ble_eq_true rfl⟩) (fun H locs hP hD hS => ?_)
        refine lv_goto (tgt := 195) hx hb dX4_deliver_150 (by decide) ?_
        refine lv_iconst (v := nI 1) hx hb dX4_deliver_195 (by decide) ?_
        have e_d : dlS (R, C, n, f, d, g) (nI i) = (R, C, n - 1 + 1, snd6 (drp f n i) (n - 1) (nI 1) (nI c) (nI r) (f (i * 6 + 3)) (R r 0) (R r 1), d, g) := e_d.trans (if_pos c_117_0)
        exact retJ hx hb hr hlk dX4_deliver_196 hS (an) (by rw [e_d]; exact hP) (by rw [e_d]; exact hAn) (by rw [dl_v (σ := (R, C, n, f, d, g)) lt_i (show n < 2 ^ 31 by omega) e_d]; exact (sub_1 (n - 1)).symm)
      · refine lv_iconst (v := nI 0) hx hb dX4_deliver_120 (by decide) ?_
        have e_d : dlS (R, C, n, f, d, g) (nI i) = (R, C, n - 1, drp f n i, d, g) := e_d.trans (ask_no c_117_0)
        exact retJ hx hb hr hlk dX4_deliver_121 hS (an) (by rw [e_d]; exact hP) (by rw [e_d]; exact hAn) (by rw [dl_v (σ := (R, C, n, f, d, g)) lt_i (show n < 2 ^ 31 by omega) e_d]; exact (sub_0 (n - 1)).symm)
    · by_cases h_1 : f (i * 6 + 0) = nI 1
      · have e_d : dlS (R, C, n, f, d, g) (nI i) = stTel (R, C, n - 1, drp f n i, d, g) c r (f (i * 6 + 3)) (f (i * 6 + 4)) (f (i * 6 + 5)) := (dlS_at (R := R) (C := C) (d := d) (g := g) lt_i (by omega) lt_c lt_r e_c e_r).trans (dlM_1 h_1)
        have hl : lv_has ls 10 [(8, .int (nI (n - 1))), (7, .int (f ((i * 6) + 5))), (6, .int (f ((i * 6) + 4))), (5, .int (f ((i * 6) + 3))), (4, .int (nI r)), (3, .int (nI c)), (2, .int (nI 1)), (0, .ref (o 0)), (1, .int (nI i))] := by rw [show f (i * 6) = nI 1 from h_1] at hl; exact hl
        refine lv_iload_n hx hb dX4_deliver_101 rfl (lv_at hl 6 rfl) ?_
        refine lv_if_eq (tgt := 110) hx hb dX4_deliver_102 (by decide) (fun c9 => absurd c9 (by decide +kernel)) (fun _ => ?_)
        refine lv_iload_n hx hb dX4_deliver_105 rfl (lv_at hl 6 rfl) ?_
        refine lv_iconst (v := nI 2) hx hb dX4_deliver_106 (by decide) ?_
        refine lv_icmp_ne (tgt := 197) hx hb dX4_deliver_107 (by decide) (fun _ => ?_) (fun c9 => absurd c9 (by decide +kernel))
        refine lv_aload_n hx hb dX4_deliver_197 rfl (lv_at hl 7 rfl) ?_
        refine va_get (D := (dC, dI)) (ci := 4) (v := .ref (o 5)) (C := RX4) (T := TX4) (N := 16) hx hb hts inX4_deliver_X4 hown hK hP (0) rfl rfl 5 (by decide) (hts _ lkX4_deliver_23) (fun _ h9 => h9) rfl dX4_deliver_198 ?_
        refine lv_iload_n hx hb dX4_deliver_201 rfl (lv_at hl 5 rfl) ?_
        refine q_iald hx hb hK hP (5) 4 (j := c) rfl rfl lt_c (Nat.le_of_ble_eq_true rfl) dX4_deliver_202 ?_
        refine lv_iload hx hb dX4_deliver_203 (lv_at hl 3 rfl) ?_
        refine lv_icmp_ne (tgt := 242) hx hb dX4_deliver_205 (by decide) (fun c_205_1 => ?_) (fun c_205_1 => ?_)
        · refine lv_iconst (v := nI 0) hx hb dX4_deliver_242 (by decide) ?_
          have e_d : dlS (R, C, n, f, d, g) (nI i) = (R, C, n - 1, drp f n i, d, g) := e_d.trans (tel_no (fun z => c_205_1 z.1))
          exact retJ hx hb hr hlk dX4_deliver_243 hS (an) (by rw [e_d]; exact hP) (by rw [e_d]; exact hAn) (by rw [dl_v (σ := (R, C, n, f, d, g)) lt_i (show n < 2 ^ 31 by omega) e_d]; exact (sub_0 (n - 1)).symm)
        · refine lv_aload_n hx hb dX4_deliver_208 rfl (lv_at hl 7 rfl) ?_
          refine va_get (D := (dC, dI)) (ci := 4) (v := .ref (o 4)) (C := RX4) (T := TX4) (N := 16) hx hb hts inX4_deliver_X4 hown hK hP (0) rfl rfl 4 (by decide) (hts _ lkX4_deliver_20) (fun _ h9 => h9) rfl dX4_deliver_209 ?_
          refine lv_iload_n hx hb dX4_deliver_212 rfl (lv_at hl 5 rfl) ?_
          refine q_iald hx hb hK hP (4) 3 (j := c) rfl rfl lt_c (Nat.le_of_ble_eq_true rfl) dX4_deliver_213 ?_
          refine lv_iload_n hx hb dX4_deliver_214 rfl (lv_at hl 6 rfl) ?_
          refine lv_iconst (v := nI 1) hx hb dX4_deliver_215 (by decide) ?_
          refine lv_icmp_ne (tgt := 223) hx hb dX4_deliver_216 (by decide) (fun c9 => absurd (by decide +kernel) c9) (fun _ => ?_)
          refine lv_iconst (v := nI 1) hx hb dX4_deliver_219 (by decide) ?_
          refine lv_goto (tgt := 224) hx hb dX4_deliver_220 (by decide) ?_
          refine lv_icmp_ne (tgt := 242) hx hb dX4_deliver_224 (by decide) (fun c_224_1 => ?_) (fun c_224_1 => ?_)
          · refine lv_iconst (v := nI 0) hx hb dX4_deliver_242 (by decide) ?_
            have e_d : dlS (R, C, n, f, d, g) (nI i) = (R, C, n - 1, drp f n i, d, g) := e_d.trans (tel_no (fun z => c_224_1 z.2.1))
            exact retJ hx hb hr hlk dX4_deliver_243 hS (an) (by rw [e_d]; exact hP) (by rw [e_d]; exact hAn) (by rw [dl_v (σ := (R, C, n, f, d, g)) lt_i (show n < 2 ^ 31 by omega) e_d]; exact (sub_0 (n - 1)).symm)
          · have e_n : an c = nI a := (hAn c lt_c (by rw [c_224_1]; decide +kernel)).trans e_a
            refine lv_aload_n hx hb dX4_deliver_227 rfl (lv_at hl 7 rfl) ?_
            refine va_get (D := (dC, dI)) (ci := 4) (v := .ref (o 8)) (C := RX4) (T := TX4) (N := 16) hx hb hts inX4_deliver_X4 hown hK hP (0) rfl rfl 8 (by decide) (hts _ lkX4_deliver_32) (fun _ h9 => h9) rfl dX4_deliver_228 ?_
            refine lv_iload_n hx hb dX4_deliver_231 rfl (lv_at hl 5 rfl) ?_
            refine q_iald hx hb hK hP (8) 7 (j := c) rfl rfl lt_c (Nat.le_of_ble_eq_true rfl) dX4_deliver_232 ?_
            refine lv_iload hx hb dX4_deliver_233 (lv_at hl 4 rfl) ?_
            refine lv_ishr hx hb dX4_deliver_235 ?_
            refine lv_iconst (v := nI 1) hx hb dX4_deliver_236 (by decide) ?_
            refine lv_iand hx hb dX4_deliver_237 ?_
            refine lv_iconst (v := nI 1) hx hb dX4_deliver_238 (by decide) ?_
            refine W.eq (g2 := F0 m 239 ls [.int (nI 1), .int ((nI a >>> (nI r &&& 31)) &&& nI 1)]) (by rw [e_n]) ?_
            refine lv_icmp_ne (tgt := 244) hx hb dX4_deliver_239 (by decide) (fun c_239_1 => ?_) (fun c_239_1 => ?_)
            · refine lv_aload_n hx hb dX4_deliver_244 rfl (lv_at hl 7 rfl) ?_
              refine va_get (D := (dC, dI)) (ci := 4) (v := .ref (o 8)) (C := RX4) (T := TX4) (N := 16) hx hb hts inX4_deliver_X4 hown hK hP (0) rfl rfl 8 (by decide) (hts _ lkX4_deliver_32) (fun _ h9 => h9) rfl dX4_deliver_245 ?_
              refine lv_iload_n hx hb dX4_deliver_248 rfl (lv_at hl 5 rfl) ?_
              refine lv_aload_n hx hb dX4_deliver_249 rfl (lv_at hl 7 rfl) ?_
              refine va_get (D := (dC, dI)) (ci := 4) (v := .ref (o 8)) (C := RX4) (T := TX4) (N := 16) hx hb hts inX4_deliver_X4 hown hK hP (0) rfl rfl 8 (by decide) (hts _ lkX4_deliver_32) (fun _ h9 => h9) rfl dX4_deliver_250 ?_
              refine lv_iload_n hx hb dX4_deliver_253 rfl (lv_at hl 5 rfl) ?_
              refine q_iald hx hb hK hP (8) 7 (j := c) rfl rfl lt_c (Nat.le_of_ble_eq_true rfl) dX4_deliver_254 ?_
              refine lv_iconst (v := nI 1) hx hb dX4_deliver_255 (by decide) ?_
              refine lv_iload hx hb dX4_deliver_256 (lv_at hl 4 rfl) ?_
              refine lv_ishl hx hb dX4_deliver_258 ?_
              refine lv_ior hx hb dX4_deliver_259 ?_
              refine qtop (y := nI (a ||| 2 ^ r)) (by rw [e_n]; exact (hear_bits a lt_a r lt_r).1) ?_
              refine q_iast (ws' := (wMc o k (fun j => R j 0) (fun j => R j 1) (fun j => R j 2) (fun j => C j 0) (fun j => C j 1) (fun j => C j 2) (fun j => C j 3) (upd an c (nI (a ||| 2 ^ r))) (fun j => C j 5) (fun j => C j 6) (fun j => C j 7) (drp f n i) g (cnF R 5) (n - 1) d)) hx hb hK hP hD hS (8) 7 (j := c) rfl rfl lt_c (Nat.le_of_ble_eq_true rfl) rfl dX4_deliver_260 (fun H locs hP hD hS => ?_)
              refine lv_iload_n hx hb dX4_deliver_261 rfl (lv_at hl 6 rfl) ?_
              refine lv_iconst (v := nI 1) hx hb dX4_deliver_262 (by decide) ?_
              refine lv_icmp_ne (tgt := 293) hx hb dX4_deliver_263 (by decide) (fun c9 => absurd (by decide +kernel) c9) (fun _ => ?_)
              refine lv_iload hx hb dX4_deliver_266 (lv_at hl 2 rfl) ?_
              refine lv_aload_n hx hb dX4_deliver_268 rfl (lv_at hl 7 rfl) ?_
              refine va_get (D := (dC, dI)) (ci := 4) (v := .ref (o 9)) (C := RX4) (T := TX4) (N := 16) hx hb hts inX4_deliver_X4 hown hK hP (0) rfl rfl 9 (by decide) (hts _ lkX4_deliver_35) (fun _ h9 => h9) rfl dX4_deliver_269 ?_
              refine lv_iload_n hx hb dX4_deliver_272 rfl (lv_at hl 5 rfl) ?_
              refine q_iald hx hb hK hP (9) 8 (j := c) rfl rfl lt_c (Nat.le_of_ble_eq_true rfl) dX4_deliver_273 ?_
              refine lv_icmp_le (tgt := 293) hx hb dX4_deliver_274 (by decide) (fun c_274_1 => ?_) (fun c_274_1 => ?_)
              · have e_T4 : (telC C c (nI r) (f (i * 6 + 4)) (f (i * 6 + 5))) c 4 = nI (a ||| 2 ^ r) := by rw [telC4, e_a]; exact (hear_bits a lt_a r lt_r).1
                have e_W : (wMc o k (fun j => R j 0) (fun j => R j 1) (fun j => R j 2) (fun j => C j 0) (fun j => C j 1) (fun j => C j 2) (fun j => C j 3) (upd an c (nI (a ||| 2 ^ r))) (fun j => C j 5) (fun j => C j 6) (fun j => C j 7) (drp f n i) g (cnF R 5) (n - 1) d) = (wMc o k (fun j => R j 0) (fun j => R j 1) (fun j => R j 2) (fun j => (telC C c (nI r) (f (i * 6 + 4)) (f (i * 6 + 5))) j 0) (fun j => (telC C c (nI r) (f (i * 6 + 4)) (f (i * 6 + 5))) j 1) (fun j => (telC C c (nI r) (f (i * 6 + 4)) (f (i * 6 + 5))) j 2) (fun j => (telC C c (nI r) (f (i * 6 + 4)) (f (i * 6 + 5))) j 3) (upd an c (nI (a ||| 2 ^ r))) (fun j => (telC C c (nI r) (f (i * 6 + 4)) (f (i * 6 + 5))) j 5) (fun j => (telC C c (nI r) (f (i * 6 + 4)) (f (i * 6 + 5))) j 6) (fun j => (telC C c (nI r) (f (i * 6 + 4)) (f (i * 6 + 5))) j 7) (drp f n i) g (cnF R 5) (n - 1) d) := (wM_of (fun _ => rfl) (fun _ => rfl) (fun _ => rfl) (fun q => by simp [upd, telC, heaC, up2, c_274_1]) (fun q => by simp [upd, telC, heaC, up2, c_274_1]) (fun q => by simp [upd, telC, heaC, up2, c_274_1]) (fun q => by simp [upd, telC, heaC, up2, c_274_1]) (fun q => by simp [upd, telC, heaC, up2, c_274_1]) (fun q => by simp [upd, telC, heaC, up2, c_274_1]) (fun q => by simp [upd, telC, heaC, up2, c_274_1]))
                have hP : va_P (dC, dI) vwCl (wMc o k (fun j => R j 0) (fun j => R j 1) (fun j => R j 2) (fun j => (telC C c (nI r) (f (i * 6 + 4)) (f (i * 6 + 5))) j 0) (fun j => (telC C c (nI r) (f (i * 6 + 4)) (f (i * 6 + 5))) j 1) (fun j => (telC C c (nI r) (f (i * 6 + 4)) (f (i * 6 + 5))) j 2) (fun j => (telC C c (nI r) (f (i * 6 + 4)) (f (i * 6 + 5))) j 3) (upd an c (nI (a ||| 2 ^ r))) (fun j => (telC C c (nI r) (f (i * 6 + 4)) (f (i * 6 + 5))) j 5) (fun j => (telC C c (nI r) (f (i * 6 + 4)) (f (i * 6 + 5))) j 6) (fun j => (telC C c (nI r) (f (i * 6 + 4)) (f (i * 6 + 5))) j 7) (drp f n i) g (cnF R 5) (n - 1) d) H := va_Pe e_W hP
                have hD : va_D A (wMc o k (fun j => R j 0) (fun j => R j 1) (fun j => R j 2) (fun j => (telC C c (nI r) (f (i * 6 + 4)) (f (i * 6 + 5))) j 0) (fun j => (telC C c (nI r) (f (i * 6 + 4)) (f (i * 6 + 5))) j 1) (fun j => (telC C c (nI r) (f (i * 6 + 4)) (f (i * 6 + 5))) j 2) (fun j => (telC C c (nI r) (f (i * 6 + 4)) (f (i * 6 + 5))) j 3) (upd an c (nI (a ||| 2 ^ r))) (fun j => (telC C c (nI r) (f (i * 6 + 4)) (f (i * 6 + 5))) j 5) (fun j => (telC C c (nI r) (f (i * 6 + 4)) (f (i * 6 + 5))) j 6) (fun j => (telC C c (nI r) (f (i * 6 + 4)) (f (i * 6 + 5))) j 7) (drp f n i) g (cnF R 5) (n - 1) d) := va_De e_W hD
                have e_A : aw (C c) (nI 1) (nI r) (f (i * 6 + 3)) := ⟨c_205_1, c_224_1, by rw [e_a]; exact Classical.byContradiction (fun z => c_239_1 ((shr_bit a lt_a r lt_r).mpr z))⟩
                have n_T : ∀ q b, q ≠ c → (telC C c (nI r) (f (i * 6 + 4)) (f (i * 6 + 5))) q b = C q b := fun q b h => telC_ne h
                have e_T1 : (telC C c (nI r) (f (i * 6 + 4)) (f (i * 6 + 5))) c 1 = C c 1 := telC1
                have e_d : dlS (R, C, n, f, d, g) (nI i) = (if 3 ≤ bts ((telC C c (nI r) (f (i * 6 + 4)) (f (i * 6 + 5))) c 4) then stSto (R, telC C c (nI r) (f (i * 6 + 4)) (f (i * 6 + 5)), n - 1, drp f n i, d, g) c else (R, telC C c (nI r) (f (i * 6 + 4)) (f (i * 6 + 5)), n - 1, drp f n i, d, g)) := e_d.trans (if_pos e_A)
                clear e_W
                generalize telC C c (nI r) (f (i * 6 + 4)) (f (i * 6 + 5)) = T at hP hD e_T4 n_T e_T1 e_d
                rw [e_T4, bts_nI (hear_bits a lt_a r lt_r).2] at e_d
                refine lv_aload_n hx hb dX4_deliver_293 rfl (lv_at hl 7 rfl) ?_
                refine va_get (D := (dC, dI)) (ci := 4) (v := .ref (o 8)) (C := RX4) (T := TX4) (N := 16) hx hb hts inX4_deliver_X4 hown hK hP (0) rfl rfl 8 (by decide) (hts _ lkX4_deliver_32) (fun _ h9 => h9) rfl dX4_deliver_294 ?_
                refine lv_iload_n hx hb dX4_deliver_297 rfl (lv_at hl 5 rfl) ?_
                refine q_iald hx hb hK hP (8) 7 (j := c) rfl rfl lt_c (Nat.le_of_ble_eq_true rfl) dX4_deliver_298 ?_
                refine goS (va_runS (rm := ({ frames := 0, cells := 0, slots := 0, locals := 0 } : Room)) (As := [.int ((upd an c (nI (a ||| 2 ^ r))) c)]) (rest := []) ⟨hx, hb, hml, hown, hts⟩ (MetS.at (k_X4_bits l dC dI ((upd an c (nI (a ||| 2 ^ r))) c))) (va_cwS 1 hts gX4_deliver_X4_bits rfl rfl rfl (by decide +kernel) ⟨Nat.le_of_ble_eq_true rfl, Nat.le_of_ble_eq_true rfl⟩) (preSS (hK.sub [] rfl) va_P0) rfl rfl hl.1 rfl (lv_room (Nat.le_of_ble_eq_true rfl)) dX4_deliver_299 ⟨Nat.le_of_ble_eq_true rfl, Nat.le_of_ble_eq_true rfl⟩) ?_
                refine qtop (y := nI (bits (a ||| 2 ^ r))) (by rw [pk_us]; exact bitM_bits _ (hear_bits a lt_a r lt_r).2) ?_
                refine lv_iconst (v := nI 3) hx hb dX4_deliver_302 (by decide) ?_
                refine lv_icmp_ge (tgt := 308) hx hb dX4_deliver_303 (by decide) (fun c_303_1 => ?_) (fun c_303_1 => ?_)
                · have h_Q : 3 ≤ bits (a ||| 2 ^ r) := (Nat.lt_or_ge (bits (a ||| 2 ^ r)) 3).elim (fun w => absurd c_303_1 (nI_ge w (by decide))) id
                  rw [if_pos h_Q] at e_d
                  refine lv_iload_n hx hb dX4_deliver_308 rfl (lv_at hl 6 rfl) ?_
                  refine lv_iconst (v := nI 1) hx hb dX4_deliver_309 (by decide) ?_
                  refine lv_icmp_ne (tgt := 431) hx hb dX4_deliver_310 (by decide) (fun c9 => absurd (by decide +kernel) c9) (fun _ => ?_)
                  refine lv_aload_n hx hb dX4_deliver_313 rfl (lv_at hl 7 rfl) ?_
                  refine va_get (D := (dC, dI)) (ci := 4) (v := .ref (o 6)) (C := RX4) (T := TX4) (N := 16) hx hb hts inX4_deliver_X4 hown hK hP (0) rfl rfl 6 (by decide) (hts _ lkX4_deliver_26) (fun _ h9 => h9) rfl dX4_deliver_314 ?_
                  refine lv_iload_n hx hb dX4_deliver_317 rfl (lv_at hl 5 rfl) ?_
                  refine q_zald hx hb hK hP (6) 5 (j := c) rfl rfl lt_c (Nat.le_of_ble_eq_true rfl) dX4_deliver_318 ?_
                  refine lv_if_eq (tgt := 396) hx hb dX4_deliver_319 (by decide) (fun c_319_1 => ?_) (fun c_319_1 => ?_)
                  · refine lv_aload_n hx hb dX4_deliver_396 rfl (lv_at hl 7 rfl) ?_
                    refine va_get (D := (dC, dI)) (ci := 4) (v := .ref (o 4)) (C := RX4) (T := TX4) (N := 16) hx hb hts inX4_deliver_X4 hown hK hP (0) rfl rfl 4 (by decide) (hts _ lkX4_deliver_20) (fun _ h9 => h9) rfl dX4_deliver_397 ?_
                    refine lv_iload_n hx hb dX4_deliver_400 rfl (lv_at hl 5 rfl) ?_
                    refine lv_iconst (v := nI 2) hx hb dX4_deliver_401 (by decide) ?_
                    refine q_iast (ws' := (wMc o k (fun j => R j 0) (fun j => R j 1) (fun j => R j 2) (upd (fun j => T j 0) c (nI 2)) (fun j => T j 1) (fun j => T j 2) (fun j => T j 3) (upd an c (nI (a ||| 2 ^ r))) (fun j => T j 5) (fun j => T j 6) (fun j => T j 7) (drp f n i) g (cnF R 5) (n - 1) d)) hx hb hK hP hD hS (4) 3 (j := c) rfl rfl lt_c (Nat.le_of_ble_eq_true rfl) rfl dX4_deliver_402 (fun H locs hP hD hS => ?_)
                    refine lv_aload_n hx hb dX4_deliver_403 rfl (lv_at hl 7 rfl) ?_
                    refine va_get (D := (dC, dI)) (ci := 4) (v := .ref (o 8)) (C := RX4) (T := TX4) (N := 16) hx hb hts inX4_deliver_X4 hown hK hP (0) rfl rfl 8 (by decide) (hts _ lkX4_deliver_32) (fun _ h9 => h9) rfl dX4_deliver_404 ?_
                    refine lv_iload_n hx hb dX4_deliver_407 rfl (lv_at hl 5 rfl) ?_
                    refine lv_iconst (v := nI 0) hx hb dX4_deliver_408 (by decide) ?_
                    refine q_iast (ws' := (wMc o k (fun j => R j 0) (fun j => R j 1) (fun j => R j 2) (upd (fun j => T j 0) c (nI 2)) (fun j => T j 1) (fun j => T j 2) (fun j => T j 3) (upd (upd an c (nI (a ||| 2 ^ r))) c (nI 0)) (fun j => T j 5) (fun j => T j 6) (fun j => T j 7) (drp f n i) g (cnF R 5) (n - 1) d)) hx hb hK hP hD hS (8) 7 (j := c) rfl rfl lt_c (Nat.le_of_ble_eq_true rfl) rfl dX4_deliver_409 (fun H locs hP hD hS => ?_)
                    have e_W : (wMc o k (fun j => R j 0) (fun j => R j 1) (fun j => R j 2) (upd (fun j => T j 0) c (nI 2)) (fun j => T j 1) (fun j => T j 2) (fun j => T j 3) (upd (upd an c (nI (a ||| 2 ^ r))) c (nI 0)) (fun j => T j 5) (fun j => T j 6) (fun j => T j 7) (drp f n i) g (cnF R 5) (n - 1) d) = (wMc o k (fun j => R j 0) (fun j => R j 1) (fun j => R j 2) (fun j => (stoC T c) j 0) (fun j => (stoC T c) j 1) (fun j => (stoC T c) j 2) (fun j => (stoC T c) j 3) (upd (upd an c (nI (a ||| 2 ^ r))) c (nI 0)) (fun j => (stoC T c) j 5) (fun j => (stoC T c) j 6) (fun j => (stoC T c) j 7) (drp f n i) g (cnF R 5) (n - 1) d) := (by rw [sto_a c_319_1]; exact (wM_of (fun _ => rfl) (fun _ => rfl) (fun _ => rfl) (fun q => by simp [upd, up2]) (fun q => by simp [upd, up2]) (fun q => by simp [upd, up2]) (fun q => by simp [upd, up2]) (fun q => by simp [upd, up2]) (fun q => by simp [upd, up2]) (fun q => by simp [upd, up2])))
                    have hP : va_P (dC, dI) vwCl (wMc o k (fun j => R j 0) (fun j => R j 1) (fun j => R j 2) (fun j => (stoC T c) j 0) (fun j => (stoC T c) j 1) (fun j => (stoC T c) j 2) (fun j => (stoC T c) j 3) (upd (upd an c (nI (a ||| 2 ^ r))) c (nI 0)) (fun j => (stoC T c) j 5) (fun j => (stoC T c) j 6) (fun j => (stoC T c) j 7) (drp f n i) g (cnF R 5) (n - 1) d) H := va_Pe e_W hP
                    have hD : va_D A (wMc o k (fun j => R j 0) (fun j => R j 1) (fun j => R j 2) (fun j => (stoC T c) j 0) (fun j => (stoC T c) j 1) (fun j => (stoC T c) j 2) (fun j => (stoC T c) j 3) (upd (upd an c (nI (a ||| 2 ^ r))) c (nI 0)) (fun j => (stoC T c) j 5) (fun j => (stoC T c) j 6) (fun j => (stoC T c) j 7) (drp f n i) g (cnF R 5) (n - 1) d) := va_De e_W hD
                    clear e_W
                    refine lv_aload_n hx hb dX4_deliver_410 rfl (lv_at hl 7 rfl) ?_
                    refine lv_iconst (v := nI 2) hx hb dX4_deliver_411 (by decide) ?_
                    refine lv_iload_n hx hb dX4_deliver_412 rfl (lv_at hl 5 rfl) ?_
                    refine lv_aload_n hx hb dX4_deliver_413 rfl (lv_at hl 7 rfl) ?_
                    refine va_get (D := (dC, dI)) (ci := 4) (v := .ref (o 9)) (C := RX4) (T := TX4) (N := 16) hx hb hts inX4_deliver_X4 hown hK hP (0) rfl rfl 9 (by decide) (hts _ lkX4_deliver_35) (fun _ h9 => h9) rfl dX4_deliver_414 ?_
                    refine lv_iload_n hx hb dX4_deliver_417 rfl (lv_at hl 5 rfl) ?_
                    refine q_iald hx hb hK hP (9) 8 (j := c) rfl rfl lt_c (Nat.le_of_ble_eq_true rfl) dX4_deliver_418 ?_
                    refine lv_aload_n hx hb dX4_deliver_419 rfl (lv_at hl 7 rfl) ?_
                    refine va_get (D := (dC, dI)) (ci := 4) (v := .ref (o 10)) (C := RX4) (T := TX4) (N := 16) hx hb hts inX4_deliver_X4 hown hK hP (0) rfl rfl 10 (by decide) (hts _ lkX4_deliver_38) (fun _ h9 => h9) rfl dX4_deliver_420 ?_
                    refine lv_iload_n hx hb dX4_deliver_423 rfl (lv_at hl 5 rfl) ?_
                    refine q_iald hx hb hK hP (10) 9 (j := c) rfl rfl lt_c (Nat.le_of_ble_eq_true rfl) dX4_deliver_424 ?_
                    refine goV (ws := (wMc o k (fun j => R j 0) (fun j => R j 1) (fun j => R j 2) (fun j => (stoC T c) j 0) (fun j => (stoC T c) j 1) (fun j => (stoC T c) j 2) (fun j => (stoC T c) j 3) (upd (upd an c (nI (a ||| 2 ^ r))) c (nI 0)) (fun j => (stoC T c) j 5) (fun j => (stoC T c) j 6) (fun j => (stoC T c) j 7) (drp f n i) g (cnF R 5) (n - 1) d)) (ws' := (wMc o k (fun j => R j 0) (fun j => R j 1) (fun j => R j 2) (fun j => (stoC T c) j 0) (fun j => (stoC T c) j 1) (fun j => (stoC T c) j 2) (fun j => (stoC T c) j 3) (upd (upd an c (nI (a ||| 2 ^ r))) c (nI 0)) (fun j => (stoC T c) j 5) (fun j => (stoC T c) j 6) (fun j => (stoC T c) j 7) (sndN (nI 2) (nI c) ((stoC T c) c 1) ((stoC T c) c 5) ((stoC T c) c 6) (drp f n i) (n - 1) 5) g (cnF R 5) ((n - 1) + 5) d)) (qFit_all rfl) hP hD hS hA (va_runV (rm := ({ frames := 1, cells := 0, slots := 0, locals := 27 } : Room)) (As := [.int (nI 2), .int (nI c), .int ((stoC T c) c 5), .int ((stoC T c) c 6)]) (rest := []) ⟨hx, hb, hml, hown, hts⟩ (MetV.at (k_X4_sendAll l dC dI o k (fun j => R j 0) (fun j => R j 1) (fun j => R j 2) (fun j => (stoC T c) j 0) (fun j => (stoC T c) j 1) (fun j => (stoC T c) j 2) (fun j => (stoC T c) j 3) (upd (upd an c (nI (a ||| 2 ^ r))) c (nI 0)) (fun j => (stoC T c) j 5) (fun j => (stoC T c) j 6) (fun j => (stoC T c) j 7) (drp f n i) g (cnF R 5) (n - 1) d (by omega) c lt_c (nI 2) ((stoC T c) c 5) ((stoC T c) c 6)) H.size) (cwV 4 hts gX4_deliver_X4_sendAll rfl rfl rfl (by decide +kernel) ⟨Nat.le_of_ble_eq_true rfl, Nat.le_of_ble_eq_true rfl⟩) (preWV hK hP hD (va_recv hK hP (ci := 4) (q0 := 0) rfl rfl)) rfl rfl hl.1 rfl (lv_room (Nat.le_of_ble_eq_true rfl)) dX4_deliver_425 ⟨Nat.le_of_ble_eq_true rfl, Nat.le_of_ble_eq_true rfl⟩) (fun H locs hP hD hS => ?_)
                    rw [stoC1] at hP
                    refine lv_goto (tgt := 528) hx hb dX4_deliver_428 (by decide) ?_
                    refine lv_aload_n hx hb dX4_deliver_528 rfl (lv_at hl 7 rfl) ?_
                    refine va_get (D := (dC, dI)) (ci := 4) (v := .int (nI ((n - 1) + 5))) (C := RX4) (T := TX4) (N := 16) hx hb hts inX4_deliver_X4 hown hK hP (0) rfl rfl 13 (by decide) (hts _ lkX4_deliver_50) (fun _ h9 => h9) rfl dX4_deliver_529 ?_
                    refine lv_iload hx hb dX4_deliver_532 (lv_at hl 0 rfl) ?_
                    refine lv_isub hx hb dX4_deliver_534 ?_
                    exact retJ hx hb hr hlk dX4_deliver_535 hS (upd (upd an c (nI (a ||| 2 ^ r))) c (nI 0)) (by rw [e_d]; show va_P _ _ (wM o k R (stoC T c) (upd (upd an c (nI (a ||| 2 ^ r))) c (nI 0)) (n - 1 + 5) (sndN (nI 2) (nI c) (T c 1) (stoC T c c 5) (stoC T c c 6) (drp f n i) (n - 1) 5) d g (cnF R 5)) _; exact hP) (st_u hAn e_d n_T) (by rw [dl_v (σ := (R, C, n, f, d, g)) lt_i (show n < 2 ^ 31 by omega) e_d]; rfl)
                  · refine lv_aload_n hx hb dX4_deliver_322 rfl (lv_at hl 7 rfl) ?_
                    refine va_get (D := (dC, dI)) (ci := 4) (v := .ref (o 9)) (C := RX4) (T := TX4) (N := 16) hx hb hts inX4_deliver_X4 hown hK hP (0) rfl rfl 9 (by decide) (hts _ lkX4_deliver_35) (fun _ h9 => h9) rfl dX4_deliver_323 ?_
                    refine lv_iload_n hx hb dX4_deliver_326 rfl (lv_at hl 5 rfl) ?_
                    refine q_iald hx hb hK hP (9) 8 (j := c) rfl rfl lt_c (Nat.le_of_ble_eq_true rfl) dX4_deliver_327 ?_
                    refine lv_iconst (v := nI 4) hx hb dX4_deliver_328 (by decide) ?_
                    refine lv_idiv hx hb dX4_deliver_329 (by decide) ?_
                    refine lv_aload_n hx hb dX4_deliver_330 rfl (lv_at hl 7 rfl) ?_
                    refine va_get (D := (dC, dI)) (ci := 4) (v := .ref (o 11)) (C := RX4) (T := TX4) (N := 16) hx hb hts inX4_deliver_X4 hown hK hP (0) rfl rfl 11 (by decide) (hts _ lkX4_deliver_41) (fun _ h9 => h9) rfl dX4_deliver_331 ?_
                    refine lv_iload_n hx hb dX4_deliver_334 rfl (lv_at hl 5 rfl) ?_
                    refine q_iald hx hb hK hP (11) 10 (j := c) rfl rfl lt_c (Nat.le_of_ble_eq_true rfl) dX4_deliver_335 ?_
                    refine lv_icmp_le (tgt := 350) hx hb dX4_deliver_336 (by decide) (fun c_336_1 => ?_) (fun c_336_1 => ?_)
                    · refine lv_aload_n hx hb dX4_deliver_350 rfl (lv_at hl 7 rfl) ?_
                      refine va_get (D := (dC, dI)) (ci := 4) (v := .ref (o 11)) (C := RX4) (T := TX4) (N := 16) hx hb hts inX4_deliver_X4 hown hK hP (0) rfl rfl 11 (by decide) (hts _ lkX4_deliver_41) (fun _ h9 => h9) rfl dX4_deliver_351 ?_
                      refine lv_iload_n hx hb dX4_deliver_354 rfl (lv_at hl 5 rfl) ?_
                      refine q_iald hx hb hK hP (11) 10 (j := c) rfl rfl lt_c (Nat.le_of_ble_eq_true rfl) dX4_deliver_355 ?_
                      refine lv_istore (lv' := [(9, .int (T c 7)), (8, .int (nI (n - 1))), (7, .int (f ((i * 6) + 5))), (6, .int (f ((i * 6) + 4))), (5, .int (f ((i * 6) + 3))), (4, .int (nI r)), (3, .int (nI c)), (2, .int (nI 1)), (0, .ref (o 0)), (1, .int (nI i))]) hx hb dX4_deliver_356 hl (by decide) rfl (fun ls hl => ?_)
                      refine lv_aload_n hx hb dX4_deliver_358 rfl (lv_at hl 8 rfl) ?_
                      refine va_get (D := (dC, dI)) (ci := 4) (v := .ref (o 11)) (C := RX4) (T := TX4) (N := 16) hx hb hts inX4_deliver_X4 hown hK hP (0) rfl rfl 11 (by decide) (hts _ lkX4_deliver_41) (fun _ h9 => h9) rfl dX4_deliver_359 ?_
                      refine lv_iload_n hx hb dX4_deliver_362 rfl (lv_at hl 6 rfl) ?_
                      refine lv_iload hx hb dX4_deliver_363 (lv_at hl 0 rfl) ?_
                      refine lv_iconst (v := nI 1) hx hb dX4_deliver_365 (by decide) ?_
                      refine lv_iadd hx hb dX4_deliver_366 ?_
                      refine qtop (y := numC T c) (num_a c_336_1) ?_
                      refine q_iast (ws' := (wMc o k (fun j => R j 0) (fun j => R j 1) (fun j => R j 2) (fun j => T j 0) (fun j => T j 1) (fun j => T j 2) (fun j => T j 3) (upd an c (nI (a ||| 2 ^ r))) (fun j => T j 5) (fun j => T j 6) (upd (fun j => T j 7) c (numC T c)) (drp f n i) g (cnF R 5) (n - 1) d)) hx hb hK hP hD hS (11) 10 (j := c) rfl rfl lt_c (Nat.le_of_ble_eq_true rfl) rfl dX4_deliver_367 (fun H locs hP hD hS => ?_)
                      refine lv_aload_n hx hb dX4_deliver_368 rfl (lv_at hl 8 rfl) ?_
                      refine va_get (D := (dC, dI)) (ci := 4) (v := .ref (o 9)) (C := RX4) (T := TX4) (N := 16) hx hb hts inX4_deliver_X4 hown hK hP (0) rfl rfl 9 (by decide) (hts _ lkX4_deliver_35) (fun _ h9 => h9) rfl dX4_deliver_369 ?_
                      refine lv_iload_n hx hb dX4_deliver_372 rfl (lv_at hl 6 rfl) ?_
                      refine lv_iconst (v := nI 4) hx hb dX4_deliver_373 (by decide) ?_
                      refine lv_aload_n hx hb dX4_deliver_374 rfl (lv_at hl 8 rfl) ?_
                      refine va_get (D := (dC, dI)) (ci := 4) (v := .ref (o 11)) (C := RX4) (T := TX4) (N := 16) hx hb hts inX4_deliver_X4 hown hK hP (0) rfl rfl 11 (by decide) (hts _ lkX4_deliver_41) (fun _ h9 => h9) rfl dX4_deliver_375 ?_
                      refine lv_iload_n hx hb dX4_deliver_378 rfl (lv_at hl 6 rfl) ?_
                      refine q_iald hx hb hK hP (11) 10 (j := c) rfl rfl lt_c (Nat.le_of_ble_eq_true rfl) dX4_deliver_379 ?_
                      refine qtop (y := numC T c) pk_us ?_
                      refine lv_imul hx hb dX4_deliver_380 ?_
                      refine lv_iload_n hx hb dX4_deliver_381 rfl (lv_at hl 6 rfl) ?_
                      refine lv_iadd hx hb dX4_deliver_382 ?_
                      refine q_iast (ws' := (wMc o k (fun j => R j 0) (fun j => R j 1) (fun j => R j 2) (fun j => T j 0) (fun j => T j 1) (fun j => T j 2) (fun j => T j 3) (upd an c (nI (a ||| 2 ^ r))) (upd (fun j => T j 5) c (((nI 4) * (numC T c)) + (nI c))) (fun j => T j 6) (upd (fun j => T j 7) c (numC T c)) (drp f n i) g (cnF R 5) (n - 1) d)) hx hb hK hP hD hS (9) 8 (j := c) rfl rfl lt_c (Nat.le_of_ble_eq_true rfl) rfl dX4_deliver_383 (fun H locs hP hD hS => ?_)
                      refine lv_aload_n hx hb dX4_deliver_384 rfl (lv_at hl 8 rfl) ?_
                      refine va_get (D := (dC, dI)) (ci := 4) (v := .ref (o 10)) (C := RX4) (T := TX4) (N := 16) hx hb hts inX4_deliver_X4 hown hK hP (0) rfl rfl 10 (by decide) (hts _ lkX4_deliver_38) (fun _ h9 => h9) rfl dX4_deliver_385 ?_
                      refine lv_iload_n hx hb dX4_deliver_388 rfl (lv_at hl 6 rfl) ?_
                      refine lv_aload_n hx hb dX4_deliver_389 rfl (lv_at hl 8 rfl) ?_
                      refine va_get (D := (dC, dI)) (ci := 4) (v := .ref (o 7)) (C := RX4) (T := TX4) (N := 16) hx hb hts inX4_deliver_X4 hown hK hP (0) rfl rfl 7 (by decide) (hts _ lkX4_deliver_29) (fun _ h9 => h9) rfl dX4_deliver_390 ?_
                      refine lv_iload_n hx hb dX4_deliver_393 rfl (lv_at hl 6 rfl) ?_
                      refine q_iald hx hb hK hP (7) 6 (j := c) rfl rfl lt_c (Nat.le_of_ble_eq_true rfl) dX4_deliver_394 ?_
                      refine q_iast (ws' := (wMc o k (fun j => R j 0) (fun j => R j 1) (fun j => R j 2) (fun j => T j 0) (fun j => T j 1) (fun j => T j 2) (fun j => T j 3) (upd an c (nI (a ||| 2 ^ r))) (upd (fun j => T j 5) c (((nI 4) * (numC T c)) + (nI c))) (upd (fun j => T j 6) c (T c 3)) (upd (fun j => T j 7) c (numC T c)) (drp f n i) g (cnF R 5) (n - 1) d)) hx hb hK hP hD hS (10) 9 (j := c) rfl rfl lt_c (Nat.le_of_ble_eq_true rfl) rfl dX4_deliver_395 (fun H locs hP hD hS => ?_)
                      have e_W : (wMc o k (fun j => R j 0) (fun j => R j 1) (fun j => R j 2) (fun j => T j 0) (fun j => T j 1) (fun j => T j 2) (fun j => T j 3) (upd an c (nI (a ||| 2 ^ r))) (upd (fun j => T j 5) c (((nI 4) * (numC T c)) + (nI c))) (upd (fun j => T j 6) c (T c 3)) (upd (fun j => T j 7) c (numC T c)) (drp f n i) g (cnF R 5) (n - 1) d) = (wMc o k (fun j => R j 0) (fun j => R j 1) (fun j => R j 2) (fun j => (wriC T c) j 0) (fun j => (wriC T c) j 1) (fun j => (wriC T c) j 2) (fun j => (wriC T c) j 3) (upd an c (nI (a ||| 2 ^ r))) (fun j => (wriC T c) j 5) (fun j => (wriC T c) j 6) (fun j => (wriC T c) j 7) (drp f n i) g (cnF R 5) (n - 1) d) := (wM_of (fun _ => rfl) (fun _ => rfl) (fun _ => rfl) (fun q => by simp [upd, wriC, up2]) (fun q => by simp [upd, wriC, up2]) (fun q => by simp [upd, wriC, up2]) (fun q => by simp [upd, wriC, up2]) (fun q => by simp [upd, wriC, up2]) (fun q => by simp [upd, wriC, up2]) (fun q => by simp [upd, wriC, up2]))
                      have hP : va_P (dC, dI) vwCl (wMc o k (fun j => R j 0) (fun j => R j 1) (fun j => R j 2) (fun j => (wriC T c) j 0) (fun j => (wriC T c) j 1) (fun j => (wriC T c) j 2) (fun j => (wriC T c) j 3) (upd an c (nI (a ||| 2 ^ r))) (fun j => (wriC T c) j 5) (fun j => (wriC T c) j 6) (fun j => (wriC T c) j 7) (drp f n i) g (cnF R 5) (n - 1) d) H := va_Pe e_W hP
                      have hD : va_D A (wMc o k (fun j => R j 0) (fun j => R j 1) (fun j => R j 2) (fun j => (wriC T c) j 0) (fun j => (wriC T c) j 1) (fun j => (wriC T c) j 2) (fun j => (wriC T c) j 3) (upd an c (nI (a ||| 2 ^ r))) (fun j => (wriC T c) j 5) (fun j => (wriC T c) j 6) (fun j => (wriC T c) j 7) (drp f n i) g (cnF R 5) (n - 1) d) := va_De e_W hD
                      clear e_W
                      refine lv_aload_n hx hb dX4_deliver_396 rfl (lv_at hl 8 rfl) ?_
                      refine va_get (D := (dC, dI)) (ci := 4) (v := .ref (o 4)) (C := RX4) (T := TX4) (N := 16) hx hb hts inX4_deliver_X4 hown hK hP (0) rfl rfl 4 (by decide) (hts _ lkX4_deliver_20) (fun _ h9 => h9) rfl dX4_deliver_397 ?_
                      refine lv_iload_n hx hb dX4_deliver_400 rfl (lv_at hl 6 rfl) ?_
                      refine lv_iconst (v := nI 2) hx hb dX4_deliver_401 (by decide) ?_
                      refine q_iast (ws' := (wMc o k (fun j => R j 0) (fun j => R j 1) (fun j => R j 2) (upd (fun j => (wriC T c) j 0) c (nI 2)) (fun j => (wriC T c) j 1) (fun j => (wriC T c) j 2) (fun j => (wriC T c) j 3) (upd an c (nI (a ||| 2 ^ r))) (fun j => (wriC T c) j 5) (fun j => (wriC T c) j 6) (fun j => (wriC T c) j 7) (drp f n i) g (cnF R 5) (n - 1) d)) hx hb hK hP hD hS (4) 3 (j := c) rfl rfl lt_c (Nat.le_of_ble_eq_true rfl) rfl dX4_deliver_402 (fun H locs hP hD hS => ?_)
                      refine lv_aload_n hx hb dX4_deliver_403 rfl (lv_at hl 8 rfl) ?_
                      refine va_get (D := (dC, dI)) (ci := 4) (v := .ref (o 8)) (C := RX4) (T := TX4) (N := 16) hx hb hts inX4_deliver_X4 hown hK hP (0) rfl rfl 8 (by decide) (hts _ lkX4_deliver_32) (fun _ h9 => h9) rfl dX4_deliver_404 ?_
                      refine lv_iload_n hx hb dX4_deliver_407 rfl (lv_at hl 6 rfl) ?_
                      refine lv_iconst (v := nI 0) hx hb dX4_deliver_408 (by decide) ?_
                      refine q_iast (ws' := (wMc o k (fun j => R j 0) (fun j => R j 1) (fun j => R j 2) (upd (fun j => (wriC T c) j 0) c (nI 2)) (fun j => (wriC T c) j 1) (fun j => (wriC T c) j 2) (fun j => (wriC T c) j 3) (upd (upd an c (nI (a ||| 2 ^ r))) c (nI 0)) (fun j => (wriC T c) j 5) (fun j => (wriC T c) j 6) (fun j => (wriC T c) j 7) (drp f n i) g (cnF R 5) (n - 1) d)) hx hb hK hP hD hS (8) 7 (j := c) rfl rfl lt_c (Nat.le_of_ble_eq_true rfl) rfl dX4_deliver_409 (fun H locs hP hD hS => ?_)
                      have e_W : (wMc o k (fun j => R j 0) (fun j => R j 1) (fun j => R j 2) (upd (fun j => (wriC T c) j 0) c (nI 2)) (fun j => (wriC T c) j 1) (fun j => (wriC T c) j 2) (fun j => (wriC T c) j 3) (upd (upd an c (nI (a ||| 2 ^ r))) c (nI 0)) (fun j => (wriC T c) j 5) (fun j => (wriC T c) j 6) (fun j => (wriC T c) j 7) (drp f n i) g (cnF R 5) (n - 1) d) = (wMc o k (fun j => R j 0) (fun j => R j 1) (fun j => R j 2) (fun j => (stoC T c) j 0) (fun j => (stoC T c) j 1) (fun j => (stoC T c) j 2) (fun j => (stoC T c) j 3) (upd (upd an c (nI (a ||| 2 ^ r))) c (nI 0)) (fun j => (stoC T c) j 5) (fun j => (stoC T c) j 6) (fun j => (stoC T c) j 7) (drp f n i) g (cnF R 5) (n - 1) d) := (by rw [sto_b c_319_1]; exact (wM_of (fun _ => rfl) (fun _ => rfl) (fun _ => rfl) (fun q => by simp [upd, up2]) (fun q => by simp [upd, up2]) (fun q => by simp [upd, up2]) (fun q => by simp [upd, up2]) (fun q => by simp [upd, up2]) (fun q => by simp [upd, up2]) (fun q => by simp [upd, up2])))
                      have hP : va_P (dC, dI) vwCl (wMc o k (fun j => R j 0) (fun j => R j 1) (fun j => R j 2) (fun j => (stoC T c) j 0) (fun j => (stoC T c) j 1) (fun j => (stoC T c) j 2) (fun j => (stoC T c) j 3) (upd (upd an c (nI (a ||| 2 ^ r))) c (nI 0)) (fun j => (stoC T c) j 5) (fun j => (stoC T c) j 6) (fun j => (stoC T c) j 7) (drp f n i) g (cnF R 5) (n - 1) d) H := va_Pe e_W hP
                      have hD : va_D A (wMc o k (fun j => R j 0) (fun j => R j 1) (fun j => R j 2) (fun j => (stoC T c) j 0) (fun j => (stoC T c) j 1) (fun j => (stoC T c) j 2) (fun j => (stoC T c) j 3) (upd (upd an c (nI (a ||| 2 ^ r))) c (nI 0)) (fun j => (stoC T c) j 5) (fun j => (stoC T c) j 6) (fun j => (stoC T c) j 7) (drp f n i) g (cnF R 5) (n - 1) d) := va_De e_W hD
                      clear e_W
                      refine lv_aload_n hx hb dX4_deliver_410 rfl (lv_at hl 8 rfl) ?_
                      refine lv_iconst (v := nI 2) hx hb dX4_deliver_411 (by decide) ?_
                      refine lv_iload_n hx hb dX4_deliver_412 rfl (lv_at hl 6 rfl) ?_
                      refine lv_aload_n hx hb dX4_deliver_413 rfl (lv_at hl 8 rfl) ?_
                      refine va_get (D := (dC, dI)) (ci := 4) (v := .ref (o 9)) (C := RX4) (T := TX4) (N := 16) hx hb hts inX4_deliver_X4 hown hK hP (0) rfl rfl 9 (by decide) (hts _ lkX4_deliver_35) (fun _ h9 => h9) rfl dX4_deliver_414 ?_
                      refine lv_iload_n hx hb dX4_deliver_417 rfl (lv_at hl 6 rfl) ?_
                      refine q_iald hx hb hK hP (9) 8 (j := c) rfl rfl lt_c (Nat.le_of_ble_eq_true rfl) dX4_deliver_418 ?_
                      refine lv_aload_n hx hb dX4_deliver_419 rfl (lv_at hl 8 rfl) ?_
                      refine va_get (D := (dC, dI)) (ci := 4) (v := .ref (o 10)) (C := RX4) (T := TX4) (N := 16) hx hb hts inX4_deliver_X4 hown hK hP (0) rfl rfl 10 (by decide) (hts _ lkX4_deliver_38) (fun _ h9 => h9) rfl dX4_deliver_420 ?_
                      refine lv_iload_n hx hb dX4_deliver_423 rfl (lv_at hl 6 rfl) ?_
                      refine q_iald hx hb hK hP (10) 9 (j := c) rfl rfl lt_c (Nat.le_of_ble_eq_true rfl) dX4_deliver_424 ?_
                      refine goV (ws := (wMc o k (fun j => R j 0) (fun j => R j 1) (fun j => R j 2) (fun j => (stoC T c) j 0) (fun j => (stoC T c) j 1) (fun j => (stoC T c) j 2) (fun j => (stoC T c) j 3) (upd (upd an c (nI (a ||| 2 ^ r))) c (nI 0)) (fun j => (stoC T c) j 5) (fun j => (stoC T c) j 6) (fun j => (stoC T c) j 7) (drp f n i) g (cnF R 5) (n - 1) d)) (ws' := (wMc o k (fun j => R j 0) (fun j => R j 1) (fun j => R j 2) (fun j => (stoC T c) j 0) (fun j => (stoC T c) j 1) (fun j => (stoC T c) j 2) (fun j => (stoC T c) j 3) (upd (upd an c (nI (a ||| 2 ^ r))) c (nI 0)) (fun j => (stoC T c) j 5) (fun j => (stoC T c) j 6) (fun j => (stoC T c) j 7) (sndN (nI 2) (nI c) ((stoC T c) c 1) ((stoC T c) c 5) ((stoC T c) c 6) (drp f n i) (n - 1) 5) g (cnF R 5) ((n - 1) + 5) d)) (qFit_all rfl) hP hD hS hA (va_runV (rm := ({ frames := 1, cells := 0, slots := 0, locals := 27 } : Room)) (As := [.int (nI 2), .int (nI c), .int ((stoC T c) c 5), .int ((stoC T c) c 6)]) (rest := []) ⟨hx, hb, hml, hown, hts⟩ (MetV.at (k_X4_sendAll l dC dI o k (fun j => R j 0) (fun j => R j 1) (fun j => R j 2) (fun j => (stoC T c) j 0) (fun j => (stoC T c) j 1) (fun j => (stoC T c) j 2) (fun j => (stoC T c) j 3) (upd (upd an c (nI (a ||| 2 ^ r))) c (nI 0)) (fun j => (stoC T c) j 5) (fun j => (stoC T c) j 6) (fun j => (stoC T c) j 7) (drp f n i) g (cnF R 5) (n - 1) d (by omega) c lt_c (nI 2) ((stoC T c) c 5) ((stoC T c) c 6)) H.size) (cwV 4 hts gX4_deliver_X4_sendAll rfl rfl rfl (by decide +kernel) ⟨Nat.le_of_ble_eq_true rfl, Nat.le_of_ble_eq_true rfl⟩) (preWV hK hP hD (va_recv hK hP (ci := 4) (q0 := 0) rfl rfl)) rfl rfl hl.1 rfl (lv_room (Nat.le_of_ble_eq_true rfl)) dX4_deliver_425 ⟨Nat.le_of_ble_eq_true rfl, Nat.le_of_ble_eq_true rfl⟩) (fun H locs hP hD hS => ?_)
                      rw [stoC1] at hP
                      refine lv_goto (tgt := 528) hx hb dX4_deliver_428 (by decide) ?_
                      refine lv_aload_n hx hb dX4_deliver_528 rfl (lv_at hl 8 rfl) ?_
                      refine va_get (D := (dC, dI)) (ci := 4) (v := .int (nI ((n - 1) + 5))) (C := RX4) (T := TX4) (N := 16) hx hb hts inX4_deliver_X4 hown hK hP (0) rfl rfl 13 (by decide) (hts _ lkX4_deliver_50) (fun _ h9 => h9) rfl dX4_deliver_529 ?_
                      refine lv_iload hx hb dX4_deliver_532 (lv_at hl 1 rfl) ?_
                      refine lv_isub hx hb dX4_deliver_534 ?_
                      exact retJ hx hb hr hlk dX4_deliver_535 hS (upd (upd an c (nI (a ||| 2 ^ r))) c (nI 0)) (by rw [e_d]; show va_P _ _ (wM o k R (stoC T c) (upd (upd an c (nI (a ||| 2 ^ r))) c (nI 0)) (n - 1 + 5) (sndN (nI 2) (nI c) (T c 1) (stoC T c c 5) (stoC T c c 6) (drp f n i) (n - 1) 5) d g (cnF R 5)) _; exact hP) (st_u hAn e_d n_T) (by rw [dl_v (σ := (R, C, n, f, d, g)) lt_i (show n < 2 ^ 31 by omega) e_d]; rfl)
                    · refine lv_aload_n hx hb dX4_deliver_339 rfl (lv_at hl 7 rfl) ?_
                      refine va_get (D := (dC, dI)) (ci := 4) (v := .ref (o 9)) (C := RX4) (T := TX4) (N := 16) hx hb hts inX4_deliver_X4 hown hK hP (0) rfl rfl 9 (by decide) (hts _ lkX4_deliver_35) (fun _ h9 => h9) rfl dX4_deliver_340 ?_
                      refine lv_iload_n hx hb dX4_deliver_343 rfl (lv_at hl 5 rfl) ?_
                      refine q_iald hx hb hK hP (9) 8 (j := c) rfl rfl lt_c (Nat.le_of_ble_eq_true rfl) dX4_deliver_344 ?_
                      refine lv_iconst (v := nI 4) hx hb dX4_deliver_345 (by decide) ?_
                      refine lv_idiv hx hb dX4_deliver_346 (by decide) ?_
                      refine lv_goto (tgt := 356) hx hb dX4_deliver_347 (by decide) ?_
                      refine lv_istore (lv' := [(9, .int ((T c 5) / (nI 4))), (8, .int (nI (n - 1))), (7, .int (f ((i * 6) + 5))), (6, .int (f ((i * 6) + 4))), (5, .int (f ((i * 6) + 3))), (4, .int (nI r)), (3, .int (nI c)), (2, .int (nI 1)), (0, .ref (o 0)), (1, .int (nI i))]) hx hb dX4_deliver_356 hl (by decide) rfl (fun ls hl => ?_)
                      refine lv_aload_n hx hb dX4_deliver_358 rfl (lv_at hl 8 rfl) ?_
                      refine va_get (D := (dC, dI)) (ci := 4) (v := .ref (o 11)) (C := RX4) (T := TX4) (N := 16) hx hb hts inX4_deliver_X4 hown hK hP (0) rfl rfl 11 (by decide) (hts _ lkX4_deliver_41) (fun _ h9 => h9) rfl dX4_deliver_359 ?_
                      refine lv_iload_n hx hb dX4_deliver_362 rfl (lv_at hl 6 rfl) ?_
                      refine lv_iload hx hb dX4_deliver_363 (lv_at hl 0 rfl) ?_
                      refine lv_iconst (v := nI 1) hx hb dX4_deliver_365 (by decide) ?_
                      refine lv_iadd hx hb dX4_deliver_366 ?_
                      refine qtop (y := numC T c) (num_b c_336_1) ?_
                      refine q_iast (ws' := (wMc o k (fun j => R j 0) (fun j => R j 1) (fun j => R j 2) (fun j => T j 0) (fun j => T j 1) (fun j => T j 2) (fun j => T j 3) (upd an c (nI (a ||| 2 ^ r))) (fun j => T j 5) (fun j => T j 6) (upd (fun j => T j 7) c (numC T c)) (drp f n i) g (cnF R 5) (n - 1) d)) hx hb hK hP hD hS (11) 10 (j := c) rfl rfl lt_c (Nat.le_of_ble_eq_true rfl) rfl dX4_deliver_367 (fun H locs hP hD hS => ?_)
                      refine lv_aload_n hx hb dX4_deliver_368 rfl (lv_at hl 8 rfl) ?_
                      refine va_get (D := (dC, dI)) (ci := 4) (v := .ref (o 9)) (C := RX4) (T := TX4) (N := 16) hx hb hts inX4_deliver_X4 hown hK hP (0) rfl rfl 9 (by decide) (hts _ lkX4_deliver_35) (fun _ h9 => h9) rfl dX4_deliver_369 ?_
                      refine lv_iload_n hx hb dX4_deliver_372 rfl (lv_at hl 6 rfl) ?_
                      refine lv_iconst (v := nI 4) hx hb dX4_deliver_373 (by decide) ?_
                      refine lv_aload_n hx hb dX4_deliver_374 rfl (lv_at hl 8 rfl) ?_
                      refine va_get (D := (dC, dI)) (ci := 4) (v := .ref (o 11)) (C := RX4) (T := TX4) (N := 16) hx hb hts inX4_deliver_X4 hown hK hP (0) rfl rfl 11 (by decide) (hts _ lkX4_deliver_41) (fun _ h9 => h9) rfl dX4_deliver_375 ?_
                      refine lv_iload_n hx hb dX4_deliver_378 rfl (lv_at hl 6 rfl) ?_
                      refine q_iald hx hb hK hP (11) 10 (j := c) rfl rfl lt_c (Nat.le_of_ble_eq_true rfl) dX4_deliver_379 ?_
                      refine qtop (y := numC T c) pk_us ?_
                      refine lv_imul hx hb dX4_deliver_380 ?_
                      refine lv_iload_n hx hb dX4_deliver_381 rfl (lv_at hl 6 rfl) ?_
                      refine lv_iadd hx hb dX4_deliver_382 ?_
                      refine q_iast (ws' := (wMc o k (fun j => R j 0) (fun j => R j 1) (fun j => R j 2) (fun j => T j 0) (fun j => T j 1) (fun j => T j 2) (fun j => T j 3) (upd an c (nI (a ||| 2 ^ r))) (upd (fun j => T j 5) c (((nI 4) * (numC T c)) + (nI c))) (fun j => T j 6) (upd (fun j => T j 7) c (numC T c)) (drp f n i) g (cnF R 5) (n - 1) d)) hx hb hK hP hD hS (9) 8 (j := c) rfl rfl lt_c (Nat.le_of_ble_eq_true rfl) rfl dX4_deliver_383 (fun H locs hP hD hS => ?_)
                      refine lv_aload_n hx hb dX4_deliver_384 rfl (lv_at hl 8 rfl) ?_
                      refine va_get (D := (dC, dI)) (ci := 4) (v := .ref (o 10)) (C := RX4) (T := TX4) (N := 16) hx hb hts inX4_deliver_X4 hown hK hP (0) rfl rfl 10 (by decide) (hts _ lkX4_deliver_38) (fun _ h9 => h9) rfl dX4_deliver_385 ?_
                      refine lv_iload_n hx hb dX4_deliver_388 rfl (lv_at hl 6 rfl) ?_
                      refine lv_aload_n hx hb dX4_deliver_389 rfl (lv_at hl 8 rfl) ?_
                      refine va_get (D := (dC, dI)) (ci := 4) (v := .ref (o 7)) (C := RX4) (T := TX4) (N := 16) hx hb hts inX4_deliver_X4 hown hK hP (0) rfl rfl 7 (by decide) (hts _ lkX4_deliver_29) (fun _ h9 => h9) rfl dX4_deliver_390 ?_
                      refine lv_iload_n hx hb dX4_deliver_393 rfl (lv_at hl 6 rfl) ?_
                      refine q_iald hx hb hK hP (7) 6 (j := c) rfl rfl lt_c (Nat.le_of_ble_eq_true rfl) dX4_deliver_394 ?_
                      refine q_iast (ws' := (wMc o k (fun j => R j 0) (fun j => R j 1) (fun j => R j 2) (fun j => T j 0) (fun j => T j 1) (fun j => T j 2) (fun j => T j 3) (upd an c (nI (a ||| 2 ^ r))) (upd (fun j => T j 5) c (((nI 4) * (numC T c)) + (nI c))) (upd (fun j => T j 6) c (T c 3)) (upd (fun j => T j 7) c (numC T c)) (drp f n i) g (cnF R 5) (n - 1) d)) hx hb hK hP hD hS (10) 9 (j := c) rfl rfl lt_c (Nat.le_of_ble_eq_true rfl) rfl dX4_deliver_395 (fun H locs hP hD hS => ?_)
                      have e_W : (wMc o k (fun j => R j 0) (fun j => R j 1) (fun j => R j 2) (fun j => T j 0) (fun j => T j 1) (fun j => T j 2) (fun j => T j 3) (upd an c (nI (a ||| 2 ^ r))) (upd (fun j => T j 5) c (((nI 4) * (numC T c)) + (nI c))) (upd (fun j => T j 6) c (T c 3)) (upd (fun j => T j 7) c (numC T c)) (drp f n i) g (cnF R 5) (n - 1) d) = (wMc o k (fun j => R j 0) (fun j => R j 1) (fun j => R j 2) (fun j => (wriC T c) j 0) (fun j => (wriC T c) j 1) (fun j => (wriC T c) j 2) (fun j => (wriC T c) j 3) (upd an c (nI (a ||| 2 ^ r))) (fun j => (wriC T c) j 5) (fun j => (wriC T c) j 6) (fun j => (wriC T c) j 7) (drp f n i) g (cnF R 5) (n - 1) d) := (wM_of (fun _ => rfl) (fun _ => rfl) (fun _ => rfl) (fun q => by simp [upd, wriC, up2]) (fun q => by simp [upd, wriC, up2]) (fun q => by simp [upd, wriC, up2]) (fun q => by simp [upd, wriC, up2]) (fun q => by simp [upd, wriC, up2]) (fun q => by simp [upd, wriC, up2]) (fun q => by simp [upd, wriC, up2]))
                      have hP : va_P (dC, dI) vwCl (wMc o k (fun j => R j 0) (fun j => R j 1) (fun j => R j 2) (fun j => (wriC T c) j 0) (fun j => (wriC T c) j 1) (fun j => (wriC T c) j 2) (fun j => (wriC T c) j 3) (upd an c (nI (a ||| 2 ^ r))) (fun j => (wriC T c) j 5) (fun j => (wriC T c) j 6) (fun j => (wriC T c) j 7) (drp f n i) g (cnF R 5) (n - 1) d) H := va_Pe e_W hP
                      have hD : va_D A (wMc o k (fun j => R j 0) (fun j => R j 1) (fun j => R j 2) (fun j => (wriC T c) j 0) (fun j => (wriC T c) j 1) (fun j => (wriC T c) j 2) (fun j => (wriC T c) j 3) (upd an c (nI (a ||| 2 ^ r))) (fun j => (wriC T c) j 5) (fun j => (wriC T c) j 6) (fun j => (wriC T c) j 7) (drp f n i) g (cnF R 5) (n - 1) d) := va_De e_W hD
                      clear e_W
                      refine lv_aload_n hx hb dX4_deliver_396 rfl (lv_at hl 8 rfl) ?_
                      refine va_get (D := (dC, dI)) (ci := 4) (v := .ref (o 4)) (C := RX4) (T := TX4) (N := 16) hx hb hts inX4_deliver_X4 hown hK hP (0) rfl rfl 4 (by decide) (hts _ lkX4_deliver_20) (fun _ h9 => h9) rfl dX4_deliver_397 ?_
                      refine lv_iload_n hx hb dX4_deliver_400 rfl (lv_at hl 6 rfl) ?_
                      refine lv_iconst (v := nI 2) hx hb dX4_deliver_401 (by decide) ?_
                      refine q_iast (ws' := (wMc o k (fun j => R j 0) (fun j => R j 1) (fun j => R j 2) (upd (fun j => (wriC T c) j 0) c (nI 2)) (fun j => (wriC T c) j 1) (fun j => (wriC T c) j 2) (fun j => (wriC T c) j 3) (upd an c (nI (a ||| 2 ^ r))) (fun j => (wriC T c) j 5) (fun j => (wriC T c) j 6) (fun j => (wriC T c) j 7) (drp f n i) g (cnF R 5) (n - 1) d)) hx hb hK hP hD hS (4) 3 (j := c) rfl rfl lt_c (Nat.le_of_ble_eq_true rfl) rfl dX4_deliver_402 (fun H locs hP hD hS => ?_)
                      refine lv_aload_n hx hb dX4_deliver_403 rfl (lv_at hl 8 rfl) ?_
                      refine va_get (D := (dC, dI)) (ci := 4) (v := .ref (o 8)) (C := RX4) (T := TX4) (N := 16) hx hb hts inX4_deliver_X4 hown hK hP (0) rfl rfl 8 (by decide) (hts _ lkX4_deliver_32) (fun _ h9 => h9) rfl dX4_deliver_404 ?_
                      refine lv_iload_n hx hb dX4_deliver_407 rfl (lv_at hl 6 rfl) ?_
                      refine lv_iconst (v := nI 0) hx hb dX4_deliver_408 (by decide) ?_
                      refine q_iast (ws' := (wMc o k (fun j => R j 0) (fun j => R j 1) (fun j => R j 2) (upd (fun j => (wriC T c) j 0) c (nI 2)) (fun j => (wriC T c) j 1) (fun j => (wriC T c) j 2) (fun j => (wriC T c) j 3) (upd (upd an c (nI (a ||| 2 ^ r))) c (nI 0)) (fun j => (wriC T c) j 5) (fun j => (wriC T c) j 6) (fun j => (wriC T c) j 7) (drp f n i) g (cnF R 5) (n - 1) d)) hx hb hK hP hD hS (8) 7 (j := c) rfl rfl lt_c (Nat.le_of_ble_eq_true rfl) rfl dX4_deliver_409 (fun H locs hP hD hS => ?_)
                      have e_W : (wMc o k (fun j => R j 0) (fun j => R j 1) (fun j => R j 2) (upd (fun j => (wriC T c) j 0) c (nI 2)) (fun j => (wriC T c) j 1) (fun j => (wriC T c) j 2) (fun j => (wriC T c) j 3) (upd (upd an c (nI (a ||| 2 ^ r))) c (nI 0)) (fun j => (wriC T c) j 5) (fun j => (wriC T c) j 6) (fun j => (wriC T c) j 7) (drp f n i) g (cnF R 5) (n - 1) d) = (wMc o k (fun j => R j 0) (fun j => R j 1) (fun j => R j 2) (fun j => (stoC T c) j 0) (fun j => (stoC T c) j 1) (fun j => (stoC T c) j 2) (fun j => (stoC T c) j 3) (upd (upd an c (nI (a ||| 2 ^ r))) c (nI 0)) (fun j => (stoC T c) j 5) (fun j => (stoC T c) j 6) (fun j => (stoC T c) j 7) (drp f n i) g (cnF R 5) (n - 1) d) := (by rw [sto_b c_319_1]; exact (wM_of (fun _ => rfl) (fun _ => rfl) (fun _ => rfl) (fun q => by simp [upd, up2]) (fun q => by simp [upd, up2]) (fun q => by simp [upd, up2]) (fun q => by simp [upd, up2]) (fun q => by simp [upd, up2]) (fun q => by simp [upd, up2]) (fun q => by simp [upd, up2])))
                      have hP : va_P (dC, dI) vwCl (wMc o k (fun j => R j 0) (fun j => R j 1) (fun j => R j 2) (fun j => (stoC T c) j 0) (fun j => (stoC T c) j 1) (fun j => (stoC T c) j 2) (fun j => (stoC T c) j 3) (upd (upd an c (nI (a ||| 2 ^ r))) c (nI 0)) (fun j => (stoC T c) j 5) (fun j => (stoC T c) j 6) (fun j => (stoC T c) j 7) (drp f n i) g (cnF R 5) (n - 1) d) H := va_Pe e_W hP
                      have hD : va_D A (wMc o k (fun j => R j 0) (fun j => R j 1) (fun j => R j 2) (fun j => (stoC T c) j 0) (fun j => (stoC T c) j 1) (fun j => (stoC T c) j 2) (fun j => (stoC T c) j 3) (upd (upd an c (nI (a ||| 2 ^ r))) c (nI 0)) (fun j => (stoC T c) j 5) (fun j => (stoC T c) j 6) (fun j => (stoC T c) j 7) (drp f n i) g (cnF R 5) (n - 1) d) := va_De e_W hD
                      clear e_W
                      refine lv_aload_n hx hb dX4_deliver_410 rfl (lv_at hl 8 rfl) ?_
                      refine lv_iconst (v := nI 2) hx hb dX4_deliver_411 (by decide) ?_
                      refine lv_iload_n hx hb dX4_deliver_412 rfl (lv_at hl 6 rfl) ?_
                      refine lv_aload_n hx hb dX4_deliver_413 rfl (lv_at hl 8 rfl) ?_
                      refine va_get (D := (dC, dI)) (ci := 4) (v := .ref (o 9)) (C := RX4) (T := TX4) (N := 16) hx hb hts inX4_deliver_X4 hown hK hP (0) rfl rfl 9 (by decide) (hts _ lkX4_deliver_35) (fun _ h9 => h9) rfl dX4_deliver_414 ?_
                      refine lv_iload_n hx hb dX4_deliver_417 rfl (lv_at hl 6 rfl) ?_
                      refine q_iald hx hb hK hP (9) 8 (j := c) rfl rfl lt_c (Nat.le_of_ble_eq_true rfl) dX4_deliver_418 ?_
                      refine lv_aload_n hx hb dX4_deliver_419 rfl (lv_at hl 8 rfl) ?_
                      refine va_get (D := (dC, dI)) (ci := 4) (v := .ref (o 10)) (C := RX4) (T := TX4) (N := 16) hx hb hts inX4_deliver_X4 hown hK hP (0) rfl rfl 10 (by decide) (hts _ lkX4_deliver_38) (fun _ h9 => h9) rfl dX4_deliver_420 ?_
                      refine lv_iload_n hx hb dX4_deliver_423 rfl (lv_at hl 6 rfl) ?_
                      refine q_iald hx hb hK hP (10) 9 (j := c) rfl rfl lt_c (Nat.le_of_ble_eq_true rfl) dX4_deliver_424 ?_
                      refine goV (ws := (wMc o k (fun j => R j 0) (fun j => R j 1) (fun j => R j 2) (fun j => (stoC T c) j 0) (fun j => (stoC T c) j 1) (fun j => (stoC T c) j 2) (fun j => (stoC T c) j 3) (upd (upd an c (nI (a ||| 2 ^ r))) c (nI 0)) (fun j => (stoC T c) j 5) (fun j => (stoC T c) j 6) (fun j => (stoC T c) j 7) (drp f n i) g (cnF R 5) (n - 1) d)) (ws' := (wMc o k (fun j => R j 0) (fun j => R j 1) (fun j => R j 2) (fun j => (stoC T c) j 0) (fun j => (stoC T c) j 1) (fun j => (stoC T c) j 2) (fun j => (stoC T c) j 3) (upd (upd an c (nI (a ||| 2 ^ r))) c (nI 0)) (fun j => (stoC T c) j 5) (fun j => (stoC T c) j 6) (fun j => (stoC T c) j 7) (sndN (nI 2) (nI c) ((stoC T c) c 1) ((stoC T c) c 5) ((stoC T c) c 6) (drp f n i) (n - 1) 5) g (cnF R 5) ((n - 1) + 5) d)) (qFit_all rfl) hP hD hS hA (va_runV (rm := ({ frames := 1, cells := 0, slots := 0, locals := 27 } : Room)) (As := [.int (nI 2), .int (nI c), .int ((stoC T c) c 5), .int ((stoC T c) c 6)]) (rest := []) ⟨hx, hb, hml, hown, hts⟩ (MetV.at (k_X4_sendAll l dC dI o k (fun j => R j 0) (fun j => R j 1) (fun j => R j 2) (fun j => (stoC T c) j 0) (fun j => (stoC T c) j 1) (fun j => (stoC T c) j 2) (fun j => (stoC T c) j 3) (upd (upd an c (nI (a ||| 2 ^ r))) c (nI 0)) (fun j => (stoC T c) j 5) (fun j => (stoC T c) j 6) (fun j => (stoC T c) j 7) (drp f n i) g (cnF R 5) (n - 1) d (by omega) c lt_c (nI 2) ((stoC T c) c 5) ((stoC T c) c 6)) H.size) (cwV 4 hts gX4_deliver_X4_sendAll rfl rfl rfl (by decide +kernel) ⟨Nat.le_of_ble_eq_true rfl, Nat.le_of_ble_eq_true rfl⟩) (preWV hK hP hD (va_recv hK hP (ci := 4) (q0 := 0) rfl rfl)) rfl rfl hl.1 rfl (lv_room (Nat.le_of_ble_eq_true rfl)) dX4_deliver_425 ⟨Nat.le_of_ble_eq_true rfl, Nat.le_of_ble_eq_true rfl⟩) (fun H locs hP hD hS => ?_)
                      rw [stoC1] at hP
                      refine lv_goto (tgt := 528) hx hb dX4_deliver_428 (by decide) ?_
                      refine lv_aload_n hx hb dX4_deliver_528 rfl (lv_at hl 8 rfl) ?_
                      refine va_get (D := (dC, dI)) (ci := 4) (v := .int (nI ((n - 1) + 5))) (C := RX4) (T := TX4) (N := 16) hx hb hts inX4_deliver_X4 hown hK hP (0) rfl rfl 13 (by decide) (hts _ lkX4_deliver_50) (fun _ h9 => h9) rfl dX4_deliver_529 ?_
                      refine lv_iload hx hb dX4_deliver_532 (lv_at hl 1 rfl) ?_
                      refine lv_isub hx hb dX4_deliver_534 ?_
                      exact retJ hx hb hr hlk dX4_deliver_535 hS (upd (upd an c (nI (a ||| 2 ^ r))) c (nI 0)) (by rw [e_d]; show va_P _ _ (wM o k R (stoC T c) (upd (upd an c (nI (a ||| 2 ^ r))) c (nI 0)) (n - 1 + 5) (sndN (nI 2) (nI c) (T c 1) (stoC T c c 5) (stoC T c c 6) (drp f n i) (n - 1) 5) d g (cnF R 5)) _; exact hP) (st_u hAn e_d n_T) (by rw [dl_v (σ := (R, C, n, f, d, g)) lt_i (show n < 2 ^ 31 by omega) e_d]; rfl)
                · refine lv_iconst (v := nI 0) hx hb dX4_deliver_306 (by decide) ?_
                  rw [if_neg (fun w => c_303_1 (nI_le w (by have := bits_le (a ||| 2 ^ r); omega)))] at e_d
                  exact retJ hx hb hr hlk dX4_deliver_307 hS (upd an c (nI (a ||| 2 ^ r))) (by rw [e_d]; exact hP) (nq_u hAn e_d e_T4 n_T) (by rw [dl_v (σ := (R, C, n, f, d, g)) lt_i (show n < 2 ^ 31 by omega) e_d]; exact (sub_0 (n - 1)).symm)
              · refine lv_aload_n hx hb dX4_deliver_277 rfl (lv_at hl 7 rfl) ?_
                refine va_get (D := (dC, dI)) (ci := 4) (v := .ref (o 9)) (C := RX4) (T := TX4) (N := 16) hx hb hts inX4_deliver_X4 hown hK hP (0) rfl rfl 9 (by decide) (hts _ lkX4_deliver_35) (fun _ h9 => h9) rfl dX4_deliver_278 ?_
                refine lv_iload_n hx hb dX4_deliver_281 rfl (lv_at hl 5 rfl) ?_
                refine lv_iload hx hb dX4_deliver_282 (lv_at hl 2 rfl) ?_
                refine q_iast (ws' := (wMc o k (fun j => R j 0) (fun j => R j 1) (fun j => R j 2) (fun j => C j 0) (fun j => C j 1) (fun j => C j 2) (fun j => C j 3) (upd an c (nI (a ||| 2 ^ r))) (upd (fun j => C j 5) c (f ((i * 6) + 4))) (fun j => C j 6) (fun j => C j 7) (drp f n i) g (cnF R 5) (n - 1) d)) hx hb hK hP hD hS (9) 8 (j := c) rfl rfl lt_c (Nat.le_of_ble_eq_true rfl) rfl dX4_deliver_284 (fun H locs hP hD hS => ?_)
                refine lv_aload_n hx hb dX4_deliver_285 rfl (lv_at hl 7 rfl) ?_
                refine va_get (D := (dC, dI)) (ci := 4) (v := .ref (o 10)) (C := RX4) (T := TX4) (N := 16) hx hb hts inX4_deliver_X4 hown hK hP (0) rfl rfl 10 (by decide) (hts _ lkX4_deliver_38) (fun _ h9 => h9) rfl dX4_deliver_286 ?_
                refine lv_iload_n hx hb dX4_deliver_289 rfl (lv_at hl 5 rfl) ?_
                refine lv_iload hx hb dX4_deliver_290 (lv_at hl 1 rfl) ?_
                refine q_iast (ws' := (wMc o k (fun j => R j 0) (fun j => R j 1) (fun j => R j 2) (fun j => C j 0) (fun j => C j 1) (fun j => C j 2) (fun j => C j 3) (upd an c (nI (a ||| 2 ^ r))) (upd (fun j => C j 5) c (f ((i * 6) + 4))) (upd (fun j => C j 6) c (f ((i * 6) + 5))) (fun j => C j 7) (drp f n i) g (cnF R 5) (n - 1) d)) hx hb hK hP hD hS (10) 9 (j := c) rfl rfl lt_c (Nat.le_of_ble_eq_true rfl) rfl dX4_deliver_292 (fun H locs hP hD hS => ?_)
                have e_T4 : (telC C c (nI r) (f (i * 6 + 4)) (f (i * 6 + 5))) c 4 = nI (a ||| 2 ^ r) := by rw [telC4, e_a]; exact (hear_bits a lt_a r lt_r).1
                have e_W : (wMc o k (fun j => R j 0) (fun j => R j 1) (fun j => R j 2) (fun j => C j 0) (fun j => C j 1) (fun j => C j 2) (fun j => C j 3) (upd an c (nI (a ||| 2 ^ r))) (upd (fun j => C j 5) c (f ((i * 6) + 4))) (upd (fun j => C j 6) c (f ((i * 6) + 5))) (fun j => C j 7) (drp f n i) g (cnF R 5) (n - 1) d) = (wMc o k (fun j => R j 0) (fun j => R j 1) (fun j => R j 2) (fun j => (telC C c (nI r) (f (i * 6 + 4)) (f (i * 6 + 5))) j 0) (fun j => (telC C c (nI r) (f (i * 6 + 4)) (f (i * 6 + 5))) j 1) (fun j => (telC C c (nI r) (f (i * 6 + 4)) (f (i * 6 + 5))) j 2) (fun j => (telC C c (nI r) (f (i * 6 + 4)) (f (i * 6 + 5))) j 3) (upd an c (nI (a ||| 2 ^ r))) (fun j => (telC C c (nI r) (f (i * 6 + 4)) (f (i * 6 + 5))) j 5) (fun j => (telC C c (nI r) (f (i * 6 + 4)) (f (i * 6 + 5))) j 6) (fun j => (telC C c (nI r) (f (i * 6 + 4)) (f (i * 6 + 5))) j 7) (drp f n i) g (cnF R 5) (n - 1) d) := (wM_of (fun _ => rfl) (fun _ => rfl) (fun _ => rfl) (fun q => by simp [upd, telC, heaC, up2, c_274_1]) (fun q => by simp [upd, telC, heaC, up2, c_274_1]) (fun q => by simp [upd, telC, heaC, up2, c_274_1]) (fun q => by simp [upd, telC, heaC, up2, c_274_1]) (fun q => by simp [upd, telC, heaC, up2, c_274_1]) (fun q => by simp [upd, telC, heaC, up2, c_274_1]) (fun q => by simp [upd, telC, heaC, up2, c_274_1]))
                have hP : va_P (dC, dI) vwCl (wMc o k (fun j => R j 0) (fun j => R j 1) (fun j => R j 2) (fun j => (telC C c (nI r) (f (i * 6 + 4)) (f (i * 6 + 5))) j 0) (fun j => (telC C c (nI r) (f (i * 6 + 4)) (f (i * 6 + 5))) j 1) (fun j => (telC C c (nI r) (f (i * 6 + 4)) (f (i * 6 + 5))) j 2) (fun j => (telC C c (nI r) (f (i * 6 + 4)) (f (i * 6 + 5))) j 3) (upd an c (nI (a ||| 2 ^ r))) (fun j => (telC C c (nI r) (f (i * 6 + 4)) (f (i * 6 + 5))) j 5) (fun j => (telC C c (nI r) (f (i * 6 + 4)) (f (i * 6 + 5))) j 6) (fun j => (telC C c (nI r) (f (i * 6 + 4)) (f (i * 6 + 5))) j 7) (drp f n i) g (cnF R 5) (n - 1) d) H := va_Pe e_W hP
                have hD : va_D A (wMc o k (fun j => R j 0) (fun j => R j 1) (fun j => R j 2) (fun j => (telC C c (nI r) (f (i * 6 + 4)) (f (i * 6 + 5))) j 0) (fun j => (telC C c (nI r) (f (i * 6 + 4)) (f (i * 6 + 5))) j 1) (fun j => (telC C c (nI r) (f (i * 6 + 4)) (f (i * 6 + 5))) j 2) (fun j => (telC C c (nI r) (f (i * 6 + 4)) (f (i * 6 + 5))) j 3) (upd an c (nI (a ||| 2 ^ r))) (fun j => (telC C c (nI r) (f (i * 6 + 4)) (f (i * 6 + 5))) j 5) (fun j => (telC C c (nI r) (f (i * 6 + 4)) (f (i * 6 + 5))) j 6) (fun j => (telC C c (nI r) (f (i * 6 + 4)) (f (i * 6 + 5))) j 7) (drp f n i) g (cnF R 5) (n - 1) d) := va_De e_W hD
                have e_A : aw (C c) (nI 1) (nI r) (f (i * 6 + 3)) := ⟨c_205_1, c_224_1, by rw [e_a]; exact Classical.byContradiction (fun z => c_239_1 ((shr_bit a lt_a r lt_r).mpr z))⟩
                have n_T : ∀ q b, q ≠ c → (telC C c (nI r) (f (i * 6 + 4)) (f (i * 6 + 5))) q b = C q b := fun q b h => telC_ne h
                have e_T1 : (telC C c (nI r) (f (i * 6 + 4)) (f (i * 6 + 5))) c 1 = C c 1 := telC1
                have e_d : dlS (R, C, n, f, d, g) (nI i) = (if 3 ≤ bts ((telC C c (nI r) (f (i * 6 + 4)) (f (i * 6 + 5))) c 4) then stSto (R, telC C c (nI r) (f (i * 6 + 4)) (f (i * 6 + 5)), n - 1, drp f n i, d, g) c else (R, telC C c (nI r) (f (i * 6 + 4)) (f (i * 6 + 5)), n - 1, drp f n i, d, g)) := e_d.trans (if_pos e_A)
                clear e_W
                generalize telC C c (nI r) (f (i * 6 + 4)) (f (i * 6 + 5)) = T at hP hD e_T4 n_T e_T1 e_d
                rw [e_T4, bts_nI (hear_bits a lt_a r lt_r).2] at e_d
                refine lv_aload_n hx hb dX4_deliver_293 rfl (lv_at hl 7 rfl) ?_
                refine va_get (D := (dC, dI)) (ci := 4) (v := .ref (o 8)) (C := RX4) (T := TX4) (N := 16) hx hb hts inX4_deliver_X4 hown hK hP (0) rfl rfl 8 (by decide) (hts _ lkX4_deliver_32) (fun _ h9 => h9) rfl dX4_deliver_294 ?_
                refine lv_iload_n hx hb dX4_deliver_297 rfl (lv_at hl 5 rfl) ?_
                refine q_iald hx hb hK hP (8) 7 (j := c) rfl rfl lt_c (Nat.le_of_ble_eq_true rfl) dX4_deliver_298 ?_
                refine goS (va_runS (rm := ({ frames := 0, cells := 0, slots := 0, locals := 0 } : Room)) (As := [.int ((upd an c (nI (a ||| 2 ^ r))) c)]) (rest := []) ⟨hx, hb, hml, hown, hts⟩ (MetS.at (k_X4_bits l dC dI ((upd an c (nI (a ||| 2 ^ r))) c))) (va_cwS 1 hts gX4_deliver_X4_bits rfl rfl rfl (by decide +kernel) ⟨Nat.le_of_ble_eq_true rfl, Nat.le_of_ble_eq_true rfl⟩) (preSS (hK.sub [] rfl) va_P0) rfl rfl hl.1 rfl (lv_room (Nat.le_of_ble_eq_true rfl)) dX4_deliver_299 ⟨Nat.le_of_ble_eq_true rfl, Nat.le_of_ble_eq_true rfl⟩) ?_
                refine qtop (y := nI (bits (a ||| 2 ^ r))) (by rw [pk_us]; exact bitM_bits _ (hear_bits a lt_a r lt_r).2) ?_
                refine lv_iconst (v := nI 3) hx hb dX4_deliver_302 (by decide) ?_
                refine lv_icmp_ge (tgt := 308) hx hb dX4_deliver_303 (by decide) (fun c_303_1 => ?_) (fun c_303_1 => ?_)
                · have h_Q : 3 ≤ bits (a ||| 2 ^ r) := (Nat.lt_or_ge (bits (a ||| 2 ^ r)) 3).elim (fun w => absurd c_303_1 (nI_ge w (by decide))) id
                  rw [if_pos h_Q] at e_d
                  refine lv_iload_n hx hb dX4_deliver_308 rfl (lv_at hl 6 rfl) ?_
                  refine lv_iconst (v := nI 1) hx hb dX4_deliver_309 (by decide) ?_
                  refine lv_icmp_ne (tgt := 431) hx hb dX4_deliver_310 (by decide) (fun c9 => absurd (by decide +kernel) c9) (fun _ => ?_)
                  refine lv_aload_n hx hb dX4_deliver_313 rfl (lv_at hl 7 rfl) ?_
                  refine va_get (D := (dC, dI)) (ci := 4) (v := .ref (o 6)) (C := RX4) (T := TX4) (N := 16) hx hb hts inX4_deliver_X4 hown hK hP (0) rfl rfl 6 (by decide) (hts _ lkX4_deliver_26) (fun _ h9 => h9) rfl dX4_deliver_314 ?_
                  refine lv_iload_n hx hb dX4_deliver_317 rfl (lv_at hl 5 rfl) ?_
                  refine q_zald hx hb hK hP (6) 5 (j := c) rfl rfl lt_c (Nat.le_of_ble_eq_true rfl) dX4_deliver_318 ?_
                  refine lv_if_eq (tgt := 396) hx hb dX4_deliver_319 (by decide) (fun c_319_1 => ?_) (fun c_319_1 => ?_)
                  · refine lv_aload_n hx hb dX4_deliver_396 rfl (lv_at hl 7 rfl) ?_
                    refine va_get (D := (dC, dI)) (ci := 4) (v := .ref (o 4)) (C := RX4) (T := TX4) (N := 16) hx hb hts inX4_deliver_X4 hown hK hP (0) rfl rfl 4 (by decide) (hts _ lkX4_deliver_20) (fun _ h9 => h9) rfl dX4_deliver_397 ?_
                    refine lv_iload_n hx hb dX4_deliver_400 rfl (lv_at hl 5 rfl) ?_
                    refine lv_iconst (v := nI 2) hx hb dX4_deliver_401 (by decide) ?_
                    refine q_iast (ws' := (wMc o k (fun j => R j 0) (fun j => R j 1) (fun j => R j 2) (upd (fun j => T j 0) c (nI 2)) (fun j => T j 1) (fun j => T j 2) (fun j => T j 3) (upd an c (nI (a ||| 2 ^ r))) (fun j => T j 5) (fun j => T j 6) (fun j => T j 7) (drp f n i) g (cnF R 5) (n - 1) d)) hx hb hK hP hD hS (4) 3 (j := c) rfl rfl lt_c (Nat.le_of_ble_eq_true rfl) rfl dX4_deliver_402 (fun H locs hP hD hS => ?_)
                    refine lv_aload_n hx hb dX4_deliver_403 rfl (lv_at hl 7 rfl) ?_
                    refine va_get (D := (dC, dI)) (ci := 4) (v := .ref (o 8)) (C := RX4) (T := TX4) (N := 16) hx hb hts inX4_deliver_X4 hown hK hP (0) rfl rfl 8 (by decide) (hts _ lkX4_deliver_32) (fun _ h9 => h9) rfl dX4_deliver_404 ?_
                    refine lv_iload_n hx hb dX4_deliver_407 rfl (lv_at hl 5 rfl) ?_
                    refine lv_iconst (v := nI 0) hx hb dX4_deliver_408 (by decide) ?_
                    refine q_iast (ws' := (wMc o k (fun j => R j 0) (fun j => R j 1) (fun j => R j 2) (upd (fun j => T j 0) c (nI 2)) (fun j => T j 1) (fun j => T j 2) (fun j => T j 3) (upd (upd an c (nI (a ||| 2 ^ r))) c (nI 0)) (fun j => T j 5) (fun j => T j 6) (fun j => T j 7) (drp f n i) g (cnF R 5) (n - 1) d)) hx hb hK hP hD hS (8) 7 (j := c) rfl rfl lt_c (Nat.le_of_ble_eq_true rfl) rfl dX4_deliver_409 (fun H locs hP hD hS => ?_)
                    have e_W : (wMc o k (fun j => R j 0) (fun j => R j 1) (fun j => R j 2) (upd (fun j => T j 0) c (nI 2)) (fun j => T j 1) (fun j => T j 2) (fun j => T j 3) (upd (upd an c (nI (a ||| 2 ^ r))) c (nI 0)) (fun j => T j 5) (fun j => T j 6) (fun j => T j 7) (drp f n i) g (cnF R 5) (n - 1) d) = (wMc o k (fun j => R j 0) (fun j => R j 1) (fun j => R j 2) (fun j => (stoC T c) j 0) (fun j => (stoC T c) j 1) (fun j => (stoC T c) j 2) (fun j => (stoC T c) j 3) (upd (upd an c (nI (a ||| 2 ^ r))) c (nI 0)) (fun j => (stoC T c) j 5) (fun j => (stoC T c) j 6) (fun j => (stoC T c) j 7) (drp f n i) g (cnF R 5) (n - 1) d) := (by rw [sto_a c_319_1]; exact (wM_of (fun _ => rfl) (fun _ => rfl) (fun _ => rfl) (fun q => by simp [upd, up2]) (fun q => by simp [upd, up2]) (fun q => by simp [upd, up2]) (fun q => by simp [upd, up2]) (fun q => by simp [upd, up2]) (fun q => by simp [upd, up2]) (fun q => by simp [upd, up2])))
                    have hP : va_P (dC, dI) vwCl (wMc o k (fun j => R j 0) (fun j => R j 1) (fun j => R j 2) (fun j => (stoC T c) j 0) (fun j => (stoC T c) j 1) (fun j => (stoC T c) j 2) (fun j => (stoC T c) j 3) (upd (upd an c (nI (a ||| 2 ^ r))) c (nI 0)) (fun j => (stoC T c) j 5) (fun j => (stoC T c) j 6) (fun j => (stoC T c) j 7) (drp f n i) g (cnF R 5) (n - 1) d) H := va_Pe e_W hP
                    have hD : va_D A (wMc o k (fun j => R j 0) (fun j => R j 1) (fun j => R j 2) (fun j => (stoC T c) j 0) (fun j => (stoC T c) j 1) (fun j => (stoC T c) j 2) (fun j => (stoC T c) j 3) (upd (upd an c (nI (a ||| 2 ^ r))) c (nI 0)) (fun j => (stoC T c) j 5) (fun j => (stoC T c) j 6) (fun j => (stoC T c) j 7) (drp f n i) g (cnF R 5) (n - 1) d) := va_De e_W hD
                    clear e_W
                    refine lv_aload_n hx hb dX4_deliver_410 rfl (lv_at hl 7 rfl) ?_
                    refine lv_iconst (v := nI 2) hx hb dX4_deliver_411 (by decide) ?_
                    refine lv_iload_n hx hb dX4_deliver_412 rfl (lv_at hl 5 rfl) ?_
                    refine lv_aload_n hx hb dX4_deliver_413 rfl (lv_at hl 7 rfl) ?_
                    refine va_get (D := (dC, dI)) (ci := 4) (v := .ref (o 9)) (C := RX4) (T := TX4) (N := 16) hx hb hts inX4_deliver_X4 hown hK hP (0) rfl rfl 9 (by decide) (hts _ lkX4_deliver_35) (fun _ h9 => h9) rfl dX4_deliver_414 ?_
                    refine lv_iload_n hx hb dX4_deliver_417 rfl (lv_at hl 5 rfl) ?_
                    refine q_iald hx hb hK hP (9) 8 (j := c) rfl rfl lt_c (Nat.le_of_ble_eq_true rfl) dX4_deliver_418 ?_
                    refine lv_aload_n hx hb dX4_deliver_419 rfl (lv_at hl 7 rfl) ?_
                    refine va_get (D := (dC, dI)) (ci := 4) (v := .ref (o 10)) (C := RX4) (T := TX4) (N := 16) hx hb hts inX4_deliver_X4 hown hK hP (0) rfl rfl 10 (by decide) (hts _ lkX4_deliver_38) (fun _ h9 => h9) rfl dX4_deliver_420 ?_
                    refine lv_iload_n hx hb dX4_deliver_423 rfl (lv_at hl 5 rfl) ?_
                    refine q_iald hx hb hK hP (10) 9 (j := c) rfl rfl lt_c (Nat.le_of_ble_eq_true rfl) dX4_deliver_424 ?_
                    refine goV (ws := (wMc o k (fun j => R j 0) (fun j => R j 1) (fun j => R j 2) (fun j => (stoC T c) j 0) (fun j => (stoC T c) j 1) (fun j => (stoC T c) j 2) (fun j => (stoC T c) j 3) (upd (upd an c (nI (a ||| 2 ^ r))) c (nI 0)) (fun j => (stoC T c) j 5) (fun j => (stoC T c) j 6) (fun j => (stoC T c) j 7) (drp f n i) g (cnF R 5) (n - 1) d)) (ws' := (wMc o k (fun j => R j 0) (fun j => R j 1) (fun j => R j 2) (fun j => (stoC T c) j 0) (fun j => (stoC T c) j 1) (fun j => (stoC T c) j 2) (fun j => (stoC T c) j 3) (upd (upd an c (nI (a ||| 2 ^ r))) c (nI 0)) (fun j => (stoC T c) j 5) (fun j => (stoC T c) j 6) (fun j => (stoC T c) j 7) (sndN (nI 2) (nI c) ((stoC T c) c 1) ((stoC T c) c 5) ((stoC T c) c 6) (drp f n i) (n - 1) 5) g (cnF R 5) ((n - 1) + 5) d)) (qFit_all rfl) hP hD hS hA (va_runV (rm := ({ frames := 1, cells := 0, slots := 0, locals := 27 } : Room)) (As := [.int (nI 2), .int (nI c), .int ((stoC T c) c 5), .int ((stoC T c) c 6)]) (rest := []) ⟨hx, hb, hml, hown, hts⟩ (MetV.at (k_X4_sendAll l dC dI o k (fun j => R j 0) (fun j => R j 1) (fun j => R j 2) (fun j => (stoC T c) j 0) (fun j => (stoC T c) j 1) (fun j => (stoC T c) j 2) (fun j => (stoC T c) j 3) (upd (upd an c (nI (a ||| 2 ^ r))) c (nI 0)) (fun j => (stoC T c) j 5) (fun j => (stoC T c) j 6) (fun j => (stoC T c) j 7) (drp f n i) g (cnF R 5) (n - 1) d (by omega) c lt_c (nI 2) ((stoC T c) c 5) ((stoC T c) c 6)) H.size) (cwV 4 hts gX4_deliver_X4_sendAll rfl rfl rfl (by decide +kernel) ⟨Nat.le_of_ble_eq_true rfl, Nat.le_of_ble_eq_true rfl⟩) (preWV hK hP hD (va_recv hK hP (ci := 4) (q0 := 0) rfl rfl)) rfl rfl hl.1 rfl (lv_room (Nat.le_of_ble_eq_true rfl)) dX4_deliver_425 ⟨Nat.le_of_ble_eq_true rfl, Nat.le_of_ble_eq_true rfl⟩) (fun H locs hP hD hS => ?_)
                    rw [stoC1] at hP
                    refine lv_goto (tgt := 528) hx hb dX4_deliver_428 (by decide) ?_
                    refine lv_aload_n hx hb dX4_deliver_528 rfl (lv_at hl 7 rfl) ?_
                    refine va_get (D := (dC, dI)) (ci := 4) (v := .int (nI ((n - 1) + 5))) (C := RX4) (T := TX4) (N := 16) hx hb hts inX4_deliver_X4 hown hK hP (0) rfl rfl 13 (by decide) (hts _ lkX4_deliver_50) (fun _ h9 => h9) rfl dX4_deliver_529 ?_
                    refine lv_iload hx hb dX4_deliver_532 (lv_at hl 0 rfl) ?_
                    refine lv_isub hx hb dX4_deliver_534 ?_
                    exact retJ hx hb hr hlk dX4_deliver_535 hS (upd (upd an c (nI (a ||| 2 ^ r))) c (nI 0)) (by rw [e_d]; show va_P _ _ (wM o k R (stoC T c) (upd (upd an c (nI (a ||| 2 ^ r))) c (nI 0)) (n - 1 + 5) (sndN (nI 2) (nI c) (T c 1) (stoC T c c 5) (stoC T c c 6) (drp f n i) (n - 1) 5) d g (cnF R 5)) _; exact hP) (st_u hAn e_d n_T) (by rw [dl_v (σ := (R, C, n, f, d, g)) lt_i (show n < 2 ^ 31 by omega) e_d]; rfl)
                  · refine lv_aload_n hx hb dX4_deliver_322 rfl (lv_at hl 7 rfl) ?_
                    refine va_get (D := (dC, dI)) (ci := 4) (v := .ref (o 9)) (C := RX4) (T := TX4) (N := 16) hx hb hts inX4_deliver_X4 hown hK hP (0) rfl rfl 9 (by decide) (hts _ lkX4_deliver_35) (fun _ h9 => h9) rfl dX4_deliver_323 ?_
                    refine lv_iload_n hx hb dX4_deliver_326 rfl (lv_at hl 5 rfl) ?_
                    refine q_iald hx hb hK hP (9) 8 (j := c) rfl rfl lt_c (Nat.le_of_ble_eq_true rfl) dX4_deliver_327 ?_
                    refine lv_iconst (v := nI 4) hx hb dX4_deliver_328 (by decide) ?_
                    refine lv_idiv hx hb dX4_deliver_329 (by decide) ?_
                    refine lv_aload_n hx hb dX4_deliver_330 rfl (lv_at hl 7 rfl) ?_
                    refine va_get (D := (dC, dI)) (ci := 4) (v := .ref (o 11)) (C := RX4) (T := TX4) (N := 16) hx hb hts inX4_deliver_X4 hown hK hP (0) rfl rfl 11 (by decide) (hts _ lkX4_deliver_41) (fun _ h9 => h9) rfl dX4_deliver_331 ?_
                    refine lv_iload_n hx hb dX4_deliver_334 rfl (lv_at hl 5 rfl) ?_
                    refine q_iald hx hb hK hP (11) 10 (j := c) rfl rfl lt_c (Nat.le_of_ble_eq_true rfl) dX4_deliver_335 ?_
                    refine lv_icmp_le (tgt := 350) hx hb dX4_deliver_336 (by decide) (fun c_336_1 => ?_) (fun c_336_1 => ?_)
                    · refine lv_aload_n hx hb dX4_deliver_350 rfl (lv_at hl 7 rfl) ?_
                      refine va_get (D := (dC, dI)) (ci := 4) (v := .ref (o 11)) (C := RX4) (T := TX4) (N := 16) hx hb hts inX4_deliver_X4 hown hK hP (0) rfl rfl 11 (by decide) (hts _ lkX4_deliver_41) (fun _ h9 => h9) rfl dX4_deliver_351 ?_
                      refine lv_iload_n hx hb dX4_deliver_354 rfl (lv_at hl 5 rfl) ?_
                      refine q_iald hx hb hK hP (11) 10 (j := c) rfl rfl lt_c (Nat.le_of_ble_eq_true rfl) dX4_deliver_355 ?_
                      refine lv_istore (lv' := [(9, .int (T c 7)), (8, .int (nI (n - 1))), (7, .int (f ((i * 6) + 5))), (6, .int (f ((i * 6) + 4))), (5, .int (f ((i * 6) + 3))), (4, .int (nI r)), (3, .int (nI c)), (2, .int (nI 1)), (0, .ref (o 0)), (1, .int (nI i))]) hx hb dX4_deliver_356 hl (by decide) rfl (fun ls hl => ?_)
                      refine lv_aload_n hx hb dX4_deliver_358 rfl (lv_at hl 8 rfl) ?_
                      refine va_get (D := (dC, dI)) (ci := 4) (v := .ref (o 11)) (C := RX4) (T := TX4) (N := 16) hx hb hts inX4_deliver_X4 hown hK hP (0) rfl rfl 11 (by decide) (hts _ lkX4_deliver_41) (fun _ h9 => h9) rfl dX4_deliver_359 ?_
                      refine lv_iload_n hx hb dX4_deliver_362 rfl (lv_at hl 6 rfl) ?_
                      refine lv_iload hx hb dX4_deliver_363 (lv_at hl 0 rfl) ?_
                      refine lv_iconst (v := nI 1) hx hb dX4_deliver_365 (by decide) ?_
                      refine lv_iadd hx hb dX4_deliver_366 ?_
                      refine qtop (y := numC T c) (num_a c_336_1) ?_
                      refine q_iast (ws' := (wMc o k (fun j => R j 0) (fun j => R j 1) (fun j => R j 2) (fun j => T j 0) (fun j => T j 1) (fun j => T j 2) (fun j => T j 3) (upd an c (nI (a ||| 2 ^ r))) (fun j => T j 5) (fun j => T j 6) (upd (fun j => T j 7) c (numC T c)) (drp f n i) g (cnF R 5) (n - 1) d)) hx hb hK hP hD hS (11) 10 (j := c) rfl rfl lt_c (Nat.le_of_ble_eq_true rfl) rfl dX4_deliver_367 (fun H locs hP hD hS => ?_)
                      refine lv_aload_n hx hb dX4_deliver_368 rfl (lv_at hl 8 rfl) ?_
                      refine va_get (D := (dC, dI)) (ci := 4) (v := .ref (o 9)) (C := RX4) (T := TX4) (N := 16) hx hb hts inX4_deliver_X4 hown hK hP (0) rfl rfl 9 (by decide) (hts _ lkX4_deliver_35) (fun _ h9 => h9) rfl dX4_deliver_369 ?_
                      refine lv_iload_n hx hb dX4_deliver_372 rfl (lv_at hl 6 rfl) ?_
                      refine lv_iconst (v := nI 4) hx hb dX4_deliver_373 (by decide) ?_
                      refine lv_aload_n hx hb dX4_deliver_374 rfl (lv_at hl 8 rfl) ?_
                      refine va_get (D := (dC, dI)) (ci := 4) (v := .ref (o 11)) (C := RX4) (T := TX4) (N := 16) hx hb hts inX4_deliver_X4 hown hK hP (0) rfl rfl 11 (by decide) (hts _ lkX4_deliver_41) (fun _ h9 => h9) rfl dX4_deliver_375 ?_
                      refine lv_iload_n hx hb dX4_deliver_378 rfl (lv_at hl 6 rfl) ?_
                      refine q_iald hx hb hK hP (11) 10 (j := c) rfl rfl lt_c (Nat.le_of_ble_eq_true rfl) dX4_deliver_379 ?_
                      refine qtop (y := numC T c) pk_us ?_
                      refine lv_imul hx hb dX4_deliver_380 ?_
                      refine lv_iload_n hx hb dX4_deliver_381 rfl (lv_at hl 6 rfl) ?_
                      refine lv_iadd hx hb dX4_deliver_382 ?_
                      refine q_iast (ws' := (wMc o k (fun j => R j 0) (fun j => R j 1) (fun j => R j 2) (fun j => T j 0) (fun j => T j 1) (fun j => T j 2) (fun j => T j 3) (upd an c (nI (a ||| 2 ^ r))) (upd (fun j => T j 5) c (((nI 4) * (numC T c)) + (nI c))) (fun j => T j 6) (upd (fun j => T j 7) c (numC T c)) (drp f n i) g (cnF R 5) (n - 1) d)) hx hb hK hP hD hS (9) 8 (j := c) rfl rfl lt_c (Nat.le_of_ble_eq_true rfl) rfl dX4_deliver_383 (fun H locs hP hD hS => ?_)
                      refine lv_aload_n hx hb dX4_deliver_384 rfl (lv_at hl 8 rfl) ?_
                      refine va_get (D := (dC, dI)) (ci := 4) (v := .ref (o 10)) (C := RX4) (T := TX4) (N := 16) hx hb hts inX4_deliver_X4 hown hK hP (0) rfl rfl 10 (by decide) (hts _ lkX4_deliver_38) (fun _ h9 => h9) rfl dX4_deliver_385 ?_
                      refine lv_iload_n hx hb dX4_deliver_388 rfl (lv_at hl 6 rfl) ?_
                      refine lv_aload_n hx hb dX4_deliver_389 rfl (lv_at hl 8 rfl) ?_
                      refine va_get (D := (dC, dI)) (ci := 4) (v := .ref (o 7)) (C := RX4) (T := TX4) (N := 16) hx hb hts inX4_deliver_X4 hown hK hP (0) rfl rfl 7 (by decide) (hts _ lkX4_deliver_29) (fun _ h9 => h9) rfl dX4_deliver_390 ?_
                      refine lv_iload_n hx hb dX4_deliver_393 rfl (lv_at hl 6 rfl) ?_
                      refine q_iald hx hb hK hP (7) 6 (j := c) rfl rfl lt_c (Nat.le_of_ble_eq_true rfl) dX4_deliver_394 ?_
                      refine q_iast (ws' := (wMc o k (fun j => R j 0) (fun j => R j 1) (fun j => R j 2) (fun j => T j 0) (fun j => T j 1) (fun j => T j 2) (fun j => T j 3) (upd an c (nI (a ||| 2 ^ r))) (upd (fun j => T j 5) c (((nI 4) * (numC T c)) + (nI c))) (upd (fun j => T j 6) c (T c 3)) (upd (fun j => T j 7) c (numC T c)) (drp f n i) g (cnF R 5) (n - 1) d)) hx hb hK hP hD hS (10) 9 (j := c) rfl rfl lt_c (Nat.le_of_ble_eq_true rfl) rfl dX4_deliver_395 (fun H locs hP hD hS => ?_)
                      have e_W : (wMc o k (fun j => R j 0) (fun j => R j 1) (fun j => R j 2) (fun j => T j 0) (fun j => T j 1) (fun j => T j 2) (fun j => T j 3) (upd an c (nI (a ||| 2 ^ r))) (upd (fun j => T j 5) c (((nI 4) * (numC T c)) + (nI c))) (upd (fun j => T j 6) c (T c 3)) (upd (fun j => T j 7) c (numC T c)) (drp f n i) g (cnF R 5) (n - 1) d) = (wMc o k (fun j => R j 0) (fun j => R j 1) (fun j => R j 2) (fun j => (wriC T c) j 0) (fun j => (wriC T c) j 1) (fun j => (wriC T c) j 2) (fun j => (wriC T c) j 3) (upd an c (nI (a ||| 2 ^ r))) (fun j => (wriC T c) j 5) (fun j => (wriC T c) j 6) (fun j => (wriC T c) j 7) (drp f n i) g (cnF R 5) (n - 1) d) := (wM_of (fun _ => rfl) (fun _ => rfl) (fun _ => rfl) (fun q => by simp [upd, wriC, up2]) (fun q => by simp [upd, wriC, up2]) (fun q => by simp [upd, wriC, up2]) (fun q => by simp [upd, wriC, up2]) (fun q => by simp [upd, wriC, up2]) (fun q => by simp [upd, wriC, up2]) (fun q => by simp [upd, wriC, up2]))
                      have hP : va_P (dC, dI) vwCl (wMc o k (fun j => R j 0) (fun j => R j 1) (fun j => R j 2) (fun j => (wriC T c) j 0) (fun j => (wriC T c) j 1) (fun j => (wriC T c) j 2) (fun j => (wriC T c) j 3) (upd an c (nI (a ||| 2 ^ r))) (fun j => (wriC T c) j 5) (fun j => (wriC T c) j 6) (fun j => (wriC T c) j 7) (drp f n i) g (cnF R 5) (n - 1) d) H := va_Pe e_W hP
                      have hD : va_D A (wMc o k (fun j => R j 0) (fun j => R j 1) (fun j => R j 2) (fun j => (wriC T c) j 0) (fun j => (wriC T c) j 1) (fun j => (wriC T c) j 2) (fun j => (wriC T c) j 3) (upd an c (nI (a ||| 2 ^ r))) (fun j => (wriC T c) j 5) (fun j => (wriC T c) j 6) (fun j => (wriC T c) j 7) (drp f n i) g (cnF R 5) (n - 1) d) := va_De e_W hD
                      clear e_W
                      refine lv_aload_n hx hb dX4_deliver_396 rfl (lv_at hl 8 rfl) ?_
                      refine va_get (D := (dC, dI)) (ci := 4) (v := .ref (o 4)) (C := RX4) (T := TX4) (N := 16) hx hb hts inX4_deliver_X4 hown hK hP (0) rfl rfl 4 (by decide) (hts _ lkX4_deliver_20) (fun _ h9 => h9) rfl dX4_deliver_397 ?_
                      refine lv_iload_n hx hb dX4_deliver_400 rfl (lv_at hl 6 rfl) ?_
                      refine lv_iconst (v := nI 2) hx hb dX4_deliver_401 (by decide) ?_
                      refine q_iast (ws' := (wMc o k (fun j => R j 0) (fun j => R j 1) (fun j => R j 2) (upd (fun j => (wriC T c) j 0) c (nI 2)) (fun j => (wriC T c) j 1) (fun j => (wriC T c) j 2) (fun j => (wriC T c) j 3) (upd an c (nI (a ||| 2 ^ r))) (fun j => (wriC T c) j 5) (fun j => (wriC T c) j 6) (fun j => (wriC T c) j 7) (drp f n i) g (cnF R 5) (n - 1) d)) hx hb hK hP hD hS (4) 3 (j := c) rfl rfl lt_c (Nat.le_of_ble_eq_true rfl) rfl dX4_deliver_402 (fun H locs hP hD hS => ?_)
                      refine lv_aload_n hx hb dX4_deliver_403 rfl (lv_at hl 8 rfl) ?_
                      refine va_get (D := (dC, dI)) (ci := 4) (v := .ref (o 8)) (C := RX4) (T := TX4) (N := 16) hx hb hts inX4_deliver_X4 hown hK hP (0) rfl rfl 8 (by decide) (hts _ lkX4_deliver_32) (fun _ h9 => h9) rfl dX4_deliver_404 ?_
                      refine lv_iload_n hx hb dX4_deliver_407 rfl (lv_at hl 6 rfl) ?_
                      refine lv_iconst (v := nI 0) hx hb dX4_deliver_408 (by decide) ?_
                      refine q_iast (ws' := (wMc o k (fun j => R j 0) (fun j => R j 1) (fun j => R j 2) (upd (fun j => (wriC T c) j 0) c (nI 2)) (fun j => (wriC T c) j 1) (fun j => (wriC T c) j 2) (fun j => (wriC T c) j 3) (upd (upd an c (nI (a ||| 2 ^ r))) c (nI 0)) (fun j => (wriC T c) j 5) (fun j => (wriC T c) j 6) (fun j => (wriC T c) j 7) (drp f n i) g (cnF R 5) (n - 1) d)) hx hb hK hP hD hS (8) 7 (j := c) rfl rfl lt_c (Nat.le_of_ble_eq_true rfl) rfl dX4_deliver_409 (fun H locs hP hD hS => ?_)
                      have e_W : (wMc o k (fun j => R j 0) (fun j => R j 1) (fun j => R j 2) (upd (fun j => (wriC T c) j 0) c (nI 2)) (fun j => (wriC T c) j 1) (fun j => (wriC T c) j 2) (fun j => (wriC T c) j 3) (upd (upd an c (nI (a ||| 2 ^ r))) c (nI 0)) (fun j => (wriC T c) j 5) (fun j => (wriC T c) j 6) (fun j => (wriC T c) j 7) (drp f n i) g (cnF R 5) (n - 1) d) = (wMc o k (fun j => R j 0) (fun j => R j 1) (fun j => R j 2) (fun j => (stoC T c) j 0) (fun j => (stoC T c) j 1) (fun j => (stoC T c) j 2) (fun j => (stoC T c) j 3) (upd (upd an c (nI (a ||| 2 ^ r))) c (nI 0)) (fun j => (stoC T c) j 5) (fun j => (stoC T c) j 6) (fun j => (stoC T c) j 7) (drp f n i) g (cnF R 5) (n - 1) d) := (by rw [sto_b c_319_1]; exact (wM_of (fun _ => rfl) (fun _ => rfl) (fun _ => rfl) (fun q => by simp [upd, up2]) (fun q => by simp [upd, up2]) (fun q => by simp [upd, up2]) (fun q => by simp [upd, up2]) (fun q => by simp [upd, up2]) (fun q => by simp [upd, up2]) (fun q => by simp [upd, up2])))
                      have hP : va_P (dC, dI) vwCl (wMc o k (fun j => R j 0) (fun j => R j 1) (fun j => R j 2) (fun j => (stoC T c) j 0) (fun j => (stoC T c) j 1) (fun j => (stoC T c) j 2) (fun j => (stoC T c) j 3) (upd (upd an c (nI (a ||| 2 ^ r))) c (nI 0)) (fun j => (stoC T c) j 5) (fun j => (stoC T c) j 6) (fun j => (stoC T c) j 7) (drp f n i) g (cnF R 5) (n - 1) d) H := va_Pe e_W hP
                      have hD : va_D A (wMc o k (fun j => R j 0) (fun j => R j 1) (fun j => R j 2) (fun j => (stoC T c) j 0) (fun j => (stoC T c) j 1) (fun j => (stoC T c) j 2) (fun j => (stoC T c) j 3) (upd (upd an c (nI (a ||| 2 ^ r))) c (nI 0)) (fun j => (stoC T c) j 5) (fun j => (stoC T c) j 6) (fun j => (stoC T c) j 7) (drp f n i) g (cnF R 5) (n - 1) d) := va_De e_W hD
                      clear e_W
                      refine lv_aload_n hx hb dX4_deliver_410 rfl (lv_at hl 8 rfl) ?_
                      refine lv_iconst (v := nI 2) hx hb dX4_deliver_411 (by decide) ?_
                      refine lv_iload_n hx hb dX4_deliver_412 rfl (lv_at hl 6 rfl) ?_
                      refine lv_aload_n hx hb dX4_deliver_413 rfl (lv_at hl 8 rfl) ?_
                      refine va_get (D := (dC, dI)) (ci := 4) (v := .ref (o 9)) (C := RX4) (T := TX4) (N := 16) hx hb hts inX4_deliver_X4 hown hK hP (0) rfl rfl 9 (by decide) (hts _ lkX4_deliver_35) (fun _ h9 => h9) rfl dX4_deliver_414 ?_
                      refine lv_iload_n hx hb dX4_deliver_417 rfl (lv_at hl 6 rfl) ?_
                      refine q_iald hx hb hK hP (9) 8 (j := c) rfl rfl lt_c (Nat.le_of_ble_eq_true rfl) dX4_deliver_418 ?_
                      refine lv_aload_n hx hb dX4_deliver_419 rfl (lv_at hl 8 rfl) ?_
                      refine va_get (D := (dC, dI)) (ci := 4) (v := .ref (o 10)) (C := RX4) (T := TX4) (N := 16) hx hb hts inX4_deliver_X4 hown hK hP (0) rfl rfl 10 (by decide) (hts _ lkX4_deliver_38) (fun _ h9 => h9) rfl dX4_deliver_420 ?_
                      refine lv_iload_n hx hb dX4_deliver_423 rfl (lv_at hl 6 rfl) ?_
                      refine q_iald hx hb hK hP (10) 9 (j := c) rfl rfl lt_c (Nat.le_of_ble_eq_true rfl) dX4_deliver_424 ?_
                      refine goV (ws := (wMc o k (fun j => R j 0) (fun j => R j 1) (fun j => R j 2) (fun j => (stoC T c) j 0) (fun j => (stoC T c) j 1) (fun j => (stoC T c) j 2) (fun j => (stoC T c) j 3) (upd (upd an c (nI (a ||| 2 ^ r))) c (nI 0)) (fun j => (stoC T c) j 5) (fun j => (stoC T c) j 6) (fun j => (stoC T c) j 7) (drp f n i) g (cnF R 5) (n - 1) d)) (ws' := (wMc o k (fun j => R j 0) (fun j => R j 1) (fun j => R j 2) (fun j => (stoC T c) j 0) (fun j => (stoC T c) j 1) (fun j => (stoC T c) j 2) (fun j => (stoC T c) j 3) (upd (upd an c (nI (a ||| 2 ^ r))) c (nI 0)) (fun j => (stoC T c) j 5) (fun j => (stoC T c) j 6) (fun j => (stoC T c) j 7) (sndN (nI 2) (nI c) ((stoC T c) c 1) ((stoC T c) c 5) ((stoC T c) c 6) (drp f n i) (n - 1) 5) g (cnF R 5) ((n - 1) + 5) d)) (qFit_all rfl) hP hD hS hA (va_runV (rm := ({ frames := 1, cells := 0, slots := 0, locals := 27 } : Room)) (As := [.int (nI 2), .int (nI c), .int ((stoC T c) c 5), .int ((stoC T c) c 6)]) (rest := []) ⟨hx, hb, hml, hown, hts⟩ (MetV.at (k_X4_sendAll l dC dI o k (fun j => R j 0) (fun j => R j 1) (fun j => R j 2) (fun j => (stoC T c) j 0) (fun j => (stoC T c) j 1) (fun j => (stoC T c) j 2) (fun j => (stoC T c) j 3) (upd (upd an c (nI (a ||| 2 ^ r))) c (nI 0)) (fun j => (stoC T c) j 5) (fun j => (stoC T c) j 6) (fun j => (stoC T c) j 7) (drp f n i) g (cnF R 5) (n - 1) d (by omega) c lt_c (nI 2) ((stoC T c) c 5) ((stoC T c) c 6)) H.size) (cwV 4 hts gX4_deliver_X4_sendAll rfl rfl rfl (by decide +kernel) ⟨Nat.le_of_ble_eq_true rfl, Nat.le_of_ble_eq_true rfl⟩) (preWV hK hP hD (va_recv hK hP (ci := 4) (q0 := 0) rfl rfl)) rfl rfl hl.1 rfl (lv_room (Nat.le_of_ble_eq_true rfl)) dX4_deliver_425 ⟨Nat.le_of_ble_eq_true rfl, Nat.le_of_ble_eq_true rfl⟩) (fun H locs hP hD hS => ?_)
                      rw [stoC1] at hP
                      refine lv_goto (tgt := 528) hx hb dX4_deliver_428 (by decide) ?_
                      refine lv_aload_n hx hb dX4_deliver_528 rfl (lv_at hl 8 rfl) ?_
                      refine va_get (D := (dC, dI)) (ci := 4) (v := .int (nI ((n - 1) + 5))) (C := RX4) (T := TX4) (N := 16) hx hb hts inX4_deliver_X4 hown hK hP (0) rfl rfl 13 (by decide) (hts _ lkX4_deliver_50) (fun _ h9 => h9) rfl dX4_deliver_529 ?_
                      refine lv_iload hx hb dX4_deliver_532 (lv_at hl 1 rfl) ?_
                      refine lv_isub hx hb dX4_deliver_534 ?_
                      exact retJ hx hb hr hlk dX4_deliver_535 hS (upd (upd an c (nI (a ||| 2 ^ r))) c (nI 0)) (by rw [e_d]; show va_P _ _ (wM o k R (stoC T c) (upd (upd an c (nI (a ||| 2 ^ r))) c (nI 0)) (n - 1 + 5) (sndN (nI 2) (nI c) (T c 1) (stoC T c c 5) (stoC T c c 6) (drp f n i) (n - 1) 5) d g (cnF R 5)) _; exact hP) (st_u hAn e_d n_T) (by rw [dl_v (σ := (R, C, n, f, d, g)) lt_i (show n < 2 ^ 31 by omega) e_d]; rfl)
                    · refine lv_aload_n hx hb dX4_deliver_339 rfl (lv_at hl 7 rfl) ?_
                      refine va_get (D := (dC, dI)) (ci := 4) (v := .ref (o 9)) (C := RX4) (T := TX4) (N := 16) hx hb hts inX4_deliver_X4 hown hK hP (0) rfl rfl 9 (by decide) (hts _ lkX4_deliver_35) (fun _ h9 => h9) rfl dX4_deliver_340 ?_
                      refine lv_iload_n hx hb dX4_deliver_343 rfl (lv_at hl 5 rfl) ?_
                      refine q_iald hx hb hK hP (9) 8 (j := c) rfl rfl lt_c (Nat.le_of_ble_eq_true rfl) dX4_deliver_344 ?_
                      refine lv_iconst (v := nI 4) hx hb dX4_deliver_345 (by decide) ?_
                      refine lv_idiv hx hb dX4_deliver_346 (by decide) ?_
                      refine lv_goto (tgt := 356) hx hb dX4_deliver_347 (by decide) ?_
                      refine lv_istore (lv' := [(9, .int ((T c 5) / (nI 4))), (8, .int (nI (n - 1))), (7, .int (f ((i * 6) + 5))), (6, .int (f ((i * 6) + 4))), (5, .int (f ((i * 6) + 3))), (4, .int (nI r)), (3, .int (nI c)), (2, .int (nI 1)), (0, .ref (o 0)), (1, .int (nI i))]) hx hb dX4_deliver_356 hl (by decide) rfl (fun ls hl => ?_)
                      refine lv_aload_n hx hb dX4_deliver_358 rfl (lv_at hl 8 rfl) ?_
                      refine va_get (D := (dC, dI)) (ci := 4) (v := .ref (o 11)) (C := RX4) (T := TX4) (N := 16) hx hb hts inX4_deliver_X4 hown hK hP (0) rfl rfl 11 (by decide) (hts _ lkX4_deliver_41) (fun _ h9 => h9) rfl dX4_deliver_359 ?_
                      refine lv_iload_n hx hb dX4_deliver_362 rfl (lv_at hl 6 rfl) ?_
                      refine lv_iload hx hb dX4_deliver_363 (lv_at hl 0 rfl) ?_
                      refine lv_iconst (v := nI 1) hx hb dX4_deliver_365 (by decide) ?_
                      refine lv_iadd hx hb dX4_deliver_366 ?_
                      refine qtop (y := numC T c) (num_b c_336_1) ?_
                      refine q_iast (ws' := (wMc o k (fun j => R j 0) (fun j => R j 1) (fun j => R j 2) (fun j => T j 0) (fun j => T j 1) (fun j => T j 2) (fun j => T j 3) (upd an c (nI (a ||| 2 ^ r))) (fun j => T j 5) (fun j => T j 6) (upd (fun j => T j 7) c (numC T c)) (drp f n i) g (cnF R 5) (n - 1) d)) hx hb hK hP hD hS (11) 10 (j := c) rfl rfl lt_c (Nat.le_of_ble_eq_true rfl) rfl dX4_deliver_367 (fun H locs hP hD hS => ?_)
                      refine lv_aload_n hx hb dX4_deliver_368 rfl (lv_at hl 8 rfl) ?_
                      refine va_get (D := (dC, dI)) (ci := 4) (v := .ref (o 9)) (C := RX4) (T := TX4) (N := 16) hx hb hts inX4_deliver_X4 hown hK hP (0) rfl rfl 9 (by decide) (hts _ lkX4_deliver_35) (fun _ h9 => h9) rfl dX4_deliver_369 ?_
                      refine lv_iload_n hx hb dX4_deliver_372 rfl (lv_at hl 6 rfl) ?_
                      refine lv_iconst (v := nI 4) hx hb dX4_deliver_373 (by decide) ?_
                      refine lv_aload_n hx hb dX4_deliver_374 rfl (lv_at hl 8 rfl) ?_
                      refine va_get (D := (dC, dI)) (ci := 4) (v := .ref (o 11)) (C := RX4) (T := TX4) (N := 16) hx hb hts inX4_deliver_X4 hown hK hP (0) rfl rfl 11 (by decide) (hts _ lkX4_deliver_41) (fun _ h9 => h9) rfl dX4_deliver_375 ?_
                      refine lv_iload_n hx hb dX4_deliver_378 rfl (lv_at hl 6 rfl) ?_
                      refine q_iald hx hb hK hP (11) 10 (j := c) rfl rfl lt_c (Nat.le_of_ble_eq_true rfl) dX4_deliver_379 ?_
                      refine qtop (y := numC T c) pk_us ?_
                      refine lv_imul hx hb dX4_deliver_380 ?_
                      refine lv_iload_n hx hb dX4_deliver_381 rfl (lv_at hl 6 rfl) ?_
                      refine lv_iadd hx hb dX4_deliver_382 ?_
                      refine q_iast (ws' := (wMc o k (fun j => R j 0) (fun j => R j 1) (fun j => R j 2) (fun j => T j 0) (fun j => T j 1) (fun j => T j 2) (fun j => T j 3) (upd an c (nI (a ||| 2 ^ r))) (upd (fun j => T j 5) c (((nI 4) * (numC T c)) + (nI c))) (fun j => T j 6) (upd (fun j => T j 7) c (numC T c)) (drp f n i) g (cnF R 5) (n - 1) d)) hx hb hK hP hD hS (9) 8 (j := c) rfl rfl lt_c (Nat.le_of_ble_eq_true rfl) rfl dX4_deliver_383 (fun H locs hP hD hS => ?_)
                      refine lv_aload_n hx hb dX4_deliver_384 rfl (lv_at hl 8 rfl) ?_
                      refine va_get (D := (dC, dI)) (ci := 4) (v := .ref (o 10)) (C := RX4) (T := TX4) (N := 16) hx hb hts inX4_deliver_X4 hown hK hP (0) rfl rfl 10 (by decide) (hts _ lkX4_deliver_38) (fun _ h9 => h9) rfl dX4_deliver_385 ?_
                      refine lv_iload_n hx hb dX4_deliver_388 rfl (lv_at hl 6 rfl) ?_
                      refine lv_aload_n hx hb dX4_deliver_389 rfl (lv_at hl 8 rfl) ?_
                      refine va_get (D := (dC, dI)) (ci := 4) (v := .ref (o 7)) (C := RX4) (T := TX4) (N := 16) hx hb hts inX4_deliver_X4 hown hK hP (0) rfl rfl 7 (by decide) (hts _ lkX4_deliver_29) (fun _ h9 => h9) rfl dX4_deliver_390 ?_
                      refine lv_iload_n hx hb dX4_deliver_393 rfl (lv_at hl 6 rfl) ?_
                      refine q_iald hx hb hK hP (7) 6 (j := c) rfl rfl lt_c (Nat.le_of_ble_eq_true rfl) dX4_deliver_394 ?_
                      refine q_iast (ws' := (wMc o k (fun j => R j 0) (fun j => R j 1) (fun j => R j 2) (fun j => T j 0) (fun j => T j 1) (fun j => T j 2) (fun j => T j 3) (upd an c (nI (a ||| 2 ^ r))) (upd (fun j => T j 5) c (((nI 4) * (numC T c)) + (nI c))) (upd (fun j => T j 6) c (T c 3)) (upd (fun j => T j 7) c (numC T c)) (drp f n i) g (cnF R 5) (n - 1) d)) hx hb hK hP hD hS (10) 9 (j := c) rfl rfl lt_c (Nat.le_of_ble_eq_true rfl) rfl dX4_deliver_395 (fun H locs hP hD hS => ?_)
                      have e_W : (wMc o k (fun j => R j 0) (fun j => R j 1) (fun j => R j 2) (fun j => T j 0) (fun j => T j 1) (fun j => T j 2) (fun j => T j 3) (upd an c (nI (a ||| 2 ^ r))) (upd (fun j => T j 5) c (((nI 4) * (numC T c)) + (nI c))) (upd (fun j => T j 6) c (T c 3)) (upd (fun j => T j 7) c (numC T c)) (drp f n i) g (cnF R 5) (n - 1) d) = (wMc o k (fun j => R j 0) (fun j => R j 1) (fun j => R j 2) (fun j => (wriC T c) j 0) (fun j => (wriC T c) j 1) (fun j => (wriC T c) j 2) (fun j => (wriC T c) j 3) (upd an c (nI (a ||| 2 ^ r))) (fun j => (wriC T c) j 5) (fun j => (wriC T c) j 6) (fun j => (wriC T c) j 7) (drp f n i) g (cnF R 5) (n - 1) d) := (wM_of (fun _ => rfl) (fun _ => rfl) (fun _ => rfl) (fun q => by simp [upd, wriC, up2]) (fun q => by simp [upd, wriC, up2]) (fun q => by simp [upd, wriC, up2]) (fun q => by simp [upd, wriC, up2]) (fun q => by simp [upd, wriC, up2]) (fun q => by simp [upd, wriC, up2]) (fun q => by simp [upd, wriC, up2]))
                      have hP : va_P (dC, dI) vwCl (wMc o k (fun j => R j 0) (fun j => R j 1) (fun j => R j 2) (fun j => (wriC T c) j 0) (fun j => (wriC T c) j 1) (fun j => (wriC T c) j 2) (fun j => (wriC T c) j 3) (upd an c (nI (a ||| 2 ^ r))) (fun j => (wriC T c) j 5) (fun j => (wriC T c) j 6) (fun j => (wriC T c) j 7) (drp f n i) g (cnF R 5) (n - 1) d) H := va_Pe e_W hP
                      have hD : va_D A (wMc o k (fun j => R j 0) (fun j => R j 1) (fun j => R j 2) (fun j => (wriC T c) j 0) (fun j => (wriC T c) j 1) (fun j => (wriC T c) j 2) (fun j => (wriC T c) j 3) (upd an c (nI (a ||| 2 ^ r))) (fun j => (wriC T c) j 5) (fun j => (wriC T c) j 6) (fun j => (wriC T c) j 7) (drp f n i) g (cnF R 5) (n - 1) d) := va_De e_W hD
                      clear e_W
                      refine lv_aload_n hx hb dX4_deliver_396 rfl (lv_at hl 8 rfl) ?_
                      refine va_get (D := (dC, dI)) (ci := 4) (v := .ref (o 4)) (C := RX4) (T := TX4) (N := 16) hx hb hts inX4_deliver_X4 hown hK hP (0) rfl rfl 4 (by decide) (hts _ lkX4_deliver_20) (fun _ h9 => h9) rfl dX4_deliver_397 ?_
                      refine lv_iload_n hx hb dX4_deliver_400 rfl (lv_at hl 6 rfl) ?_
                      refine lv_iconst (v := nI 2) hx hb dX4_deliver_401 (by decide) ?_
                      refine q_iast (ws' := (wMc o k (fun j => R j 0) (fun j => R j 1) (fun j => R j 2) (upd (fun j => (wriC T c) j 0) c (nI 2)) (fun j => (wriC T c) j 1) (fun j => (wriC T c) j 2) (fun j => (wriC T c) j 3) (upd an c (nI (a ||| 2 ^ r))) (fun j => (wriC T c) j 5) (fun j => (wriC T c) j 6) (fun j => (wriC T c) j 7) (drp f n i) g (cnF R 5) (n - 1) d)) hx hb hK hP hD hS (4) 3 (j := c) rfl rfl lt_c (Nat.le_of_ble_eq_true rfl) rfl dX4_deliver_402 (fun H locs hP hD hS => ?_)
                      refine lv_aload_n hx hb dX4_deliver_403 rfl (lv_at hl 8 rfl) ?_
                      refine va_get (D := (dC, dI)) (ci := 4) (v := .ref (o 8)) (C := RX4) (T := TX4) (N := 16) hx hb hts inX4_deliver_X4 hown hK hP (0) rfl rfl 8 (by decide) (hts _ lkX4_deliver_32) (fun _ h9 => h9) rfl dX4_deliver_404 ?_
                      refine lv_iload_n hx hb dX4_deliver_407 rfl (lv_at hl 6 rfl) ?_
                      refine lv_iconst (v := nI 0) hx hb dX4_deliver_408 (by decide) ?_
                      refine q_iast (ws' := (wMc o k (fun j => R j 0) (fun j => R j 1) (fun j => R j 2) (upd (fun j => (wriC T c) j 0) c (nI 2)) (fun j => (wriC T c) j 1) (fun j => (wriC T c) j 2) (fun j => (wriC T c) j 3) (upd (upd an c (nI (a ||| 2 ^ r))) c (nI 0)) (fun j => (wriC T c) j 5) (fun j => (wriC T c) j 6) (fun j => (wriC T c) j 7) (drp f n i) g (cnF R 5) (n - 1) d)) hx hb hK hP hD hS (8) 7 (j := c) rfl rfl lt_c (Nat.le_of_ble_eq_true rfl) rfl dX4_deliver_409 (fun H locs hP hD hS => ?_)
                      have e_W : (wMc o k (fun j => R j 0) (fun j => R j 1) (fun j => R j 2) (upd (fun j => (wriC T c) j 0) c (nI 2)) (fun j => (wriC T c) j 1) (fun j => (wriC T c) j 2) (fun j => (wriC T c) j 3) (upd (upd an c (nI (a ||| 2 ^ r))) c (nI 0)) (fun j => (wriC T c) j 5) (fun j => (wriC T c) j 6) (fun j => (wriC T c) j 7) (drp f n i) g (cnF R 5) (n - 1) d) = (wMc o k (fun j => R j 0) (fun j => R j 1) (fun j => R j 2) (fun j => (stoC T c) j 0) (fun j => (stoC T c) j 1) (fun j => (stoC T c) j 2) (fun j => (stoC T c) j 3) (upd (upd an c (nI (a ||| 2 ^ r))) c (nI 0)) (fun j => (stoC T c) j 5) (fun j => (stoC T c) j 6) (fun j => (stoC T c) j 7) (drp f n i) g (cnF R 5) (n - 1) d) := (by rw [sto_b c_319_1]; exact (wM_of (fun _ => rfl) (fun _ => rfl) (fun _ => rfl) (fun q => by simp [upd, up2]) (fun q => by simp [upd, up2]) (fun q => by simp [upd, up2]) (fun q => by simp [upd, up2]) (fun q => by simp [upd, up2]) (fun q => by simp [upd, up2]) (fun q => by simp [upd, up2])))
                      have hP : va_P (dC, dI) vwCl (wMc o k (fun j => R j 0) (fun j => R j 1) (fun j => R j 2) (fun j => (stoC T c) j 0) (fun j => (stoC T c) j 1) (fun j => (stoC T c) j 2) (fun j => (stoC T c) j 3) (upd (upd an c (nI (a ||| 2 ^ r))) c (nI 0)) (fun j => (stoC T c) j 5) (fun j => (stoC T c) j 6) (fun j => (stoC T c) j 7) (drp f n i) g (cnF R 5) (n - 1) d) H := va_Pe e_W hP
                      have hD : va_D A (wMc o k (fun j => R j 0) (fun j => R j 1) (fun j => R j 2) (fun j => (stoC T c) j 0) (fun j => (stoC T c) j 1) (fun j => (stoC T c) j 2) (fun j => (stoC T c) j 3) (upd (upd an c (nI (a ||| 2 ^ r))) c (nI 0)) (fun j => (stoC T c) j 5) (fun j => (stoC T c) j 6) (fun j => (stoC T c) j 7) (drp f n i) g (cnF R 5) (n - 1) d) := va_De e_W hD
                      clear e_W
                      refine lv_aload_n hx hb dX4_deliver_410 rfl (lv_at hl 8 rfl) ?_
                      refine lv_iconst (v := nI 2) hx hb dX4_deliver_411 (by decide) ?_
                      refine lv_iload_n hx hb dX4_deliver_412 rfl (lv_at hl 6 rfl) ?_
                      refine lv_aload_n hx hb dX4_deliver_413 rfl (lv_at hl 8 rfl) ?_
                      refine va_get (D := (dC, dI)) (ci := 4) (v := .ref (o 9)) (C := RX4) (T := TX4) (N := 16) hx hb hts inX4_deliver_X4 hown hK hP (0) rfl rfl 9 (by decide) (hts _ lkX4_deliver_35) (fun _ h9 => h9) rfl dX4_deliver_414 ?_
                      refine lv_iload_n hx hb dX4_deliver_417 rfl (lv_at hl 6 rfl) ?_
                      refine q_iald hx hb hK hP (9) 8 (j := c) rfl rfl lt_c (Nat.le_of_ble_eq_true rfl) dX4_deliver_418 ?_
                      refine lv_aload_n hx hb dX4_deliver_419 rfl (lv_at hl 8 rfl) ?_
                      refine va_get (D := (dC, dI)) (ci := 4) (v := .ref (o 10)) (C := RX4) (T := TX4) (N := 16) hx hb hts inX4_deliver_X4 hown hK hP (0) rfl rfl 10 (by decide) (hts _ lkX4_deliver_38) (fun _ h9 => h9) rfl dX4_deliver_420 ?_
                      refine lv_iload_n hx hb dX4_deliver_423 rfl (lv_at hl 6 rfl) ?_
                      refine q_iald hx hb hK hP (10) 9 (j := c) rfl rfl lt_c (Nat.le_of_ble_eq_true rfl) dX4_deliver_424 ?_
                      refine goV (ws := (wMc o k (fun j => R j 0) (fun j => R j 1) (fun j => R j 2) (fun j => (stoC T c) j 0) (fun j => (stoC T c) j 1) (fun j => (stoC T c) j 2) (fun j => (stoC T c) j 3) (upd (upd an c (nI (a ||| 2 ^ r))) c (nI 0)) (fun j => (stoC T c) j 5) (fun j => (stoC T c) j 6) (fun j => (stoC T c) j 7) (drp f n i) g (cnF R 5) (n - 1) d)) (ws' := (wMc o k (fun j => R j 0) (fun j => R j 1) (fun j => R j 2) (fun j => (stoC T c) j 0) (fun j => (stoC T c) j 1) (fun j => (stoC T c) j 2) (fun j => (stoC T c) j 3) (upd (upd an c (nI (a ||| 2 ^ r))) c (nI 0)) (fun j => (stoC T c) j 5) (fun j => (stoC T c) j 6) (fun j => (stoC T c) j 7) (sndN (nI 2) (nI c) ((stoC T c) c 1) ((stoC T c) c 5) ((stoC T c) c 6) (drp f n i) (n - 1) 5) g (cnF R 5) ((n - 1) + 5) d)) (qFit_all rfl) hP hD hS hA (va_runV (rm := ({ frames := 1, cells := 0, slots := 0, locals := 27 } : Room)) (As := [.int (nI 2), .int (nI c), .int ((stoC T c) c 5), .int ((stoC T c) c 6)]) (rest := []) ⟨hx, hb, hml, hown, hts⟩ (MetV.at (k_X4_sendAll l dC dI o k (fun j => R j 0) (fun j => R j 1) (fun j => R j 2) (fun j => (stoC T c) j 0) (fun j => (stoC T c) j 1) (fun j => (stoC T c) j 2) (fun j => (stoC T c) j 3) (upd (upd an c (nI (a ||| 2 ^ r))) c (nI 0)) (fun j => (stoC T c) j 5) (fun j => (stoC T c) j 6) (fun j => (stoC T c) j 7) (drp f n i) g (cnF R 5) (n - 1) d (by omega) c lt_c (nI 2) ((stoC T c) c 5) ((stoC T c) c 6)) H.size) (cwV 4 hts gX4_deliver_X4_sendAll rfl rfl rfl (by decide +kernel) ⟨Nat.le_of_ble_eq_true rfl, Nat.le_of_ble_eq_true rfl⟩) (preWV hK hP hD (va_recv hK hP (ci := 4) (q0 := 0) rfl rfl)) rfl rfl hl.1 rfl (lv_room (Nat.le_of_ble_eq_true rfl)) dX4_deliver_425 ⟨Nat.le_of_ble_eq_true rfl, Nat.le_of_ble_eq_true rfl⟩) (fun H locs hP hD hS => ?_)
                      rw [stoC1] at hP
                      refine lv_goto (tgt := 528) hx hb dX4_deliver_428 (by decide) ?_
                      refine lv_aload_n hx hb dX4_deliver_528 rfl (lv_at hl 8 rfl) ?_
                      refine va_get (D := (dC, dI)) (ci := 4) (v := .int (nI ((n - 1) + 5))) (C := RX4) (T := TX4) (N := 16) hx hb hts inX4_deliver_X4 hown hK hP (0) rfl rfl 13 (by decide) (hts _ lkX4_deliver_50) (fun _ h9 => h9) rfl dX4_deliver_529 ?_
                      refine lv_iload hx hb dX4_deliver_532 (lv_at hl 1 rfl) ?_
                      refine lv_isub hx hb dX4_deliver_534 ?_
                      exact retJ hx hb hr hlk dX4_deliver_535 hS (upd (upd an c (nI (a ||| 2 ^ r))) c (nI 0)) (by rw [e_d]; show va_P _ _ (wM o k R (stoC T c) (upd (upd an c (nI (a ||| 2 ^ r))) c (nI 0)) (n - 1 + 5) (sndN (nI 2) (nI c) (T c 1) (stoC T c c 5) (stoC T c c 6) (drp f n i) (n - 1) 5) d g (cnF R 5)) _; exact hP) (st_u hAn e_d n_T) (by rw [dl_v (σ := (R, C, n, f, d, g)) lt_i (show n < 2 ^ 31 by omega) e_d]; rfl)
                · refine lv_iconst (v := nI 0) hx hb dX4_deliver_306 (by decide) ?_
                  rw [if_neg (fun w => c_303_1 (nI_le w (by have := bits_le (a ||| 2 ^ r); omega)))] at e_d
                  exact retJ hx hb hr hlk dX4_deliver_307 hS (upd an c (nI (a ||| 2 ^ r))) (by rw [e_d]; exact hP) (nq_u hAn e_d e_T4 n_T) (by rw [dl_v (σ := (R, C, n, f, d, g)) lt_i (show n < 2 ^ 31 by omega) e_d]; exact (sub_0 (n - 1)).symm)
            · refine lv_iconst (v := nI 0) hx hb dX4_deliver_242 (by decide) ?_
              have e_d : dlS (R, C, n, f, d, g) (nI i) = (R, C, n - 1, drp f n i, d, g) := e_d.trans (tel_no (fun z => absurd z.2.2 (by show ¬ C c 4 &&& (nI 1 <<< (nI r &&& 31)) = 0; rw [e_a]; exact (shr_bit a lt_a r lt_r).mp c_239_1)))
              exact retJ hx hb hr hlk dX4_deliver_243 hS (an) (by rw [e_d]; exact hP) (by rw [e_d]; exact hAn) (by rw [dl_v (σ := (R, C, n, f, d, g)) lt_i (show n < 2 ^ 31 by omega) e_d]; exact (sub_0 (n - 1)).symm)
      · by_cases h_2 : f (i * 6 + 0) = nI 2
        · have e_d : dlS (R, C, n, f, d, g) (nI i) = stStr (R, C, n - 1, drp f n i, d, g) c r (f (i * 6 + 3)) (f (i * 6 + 4)) (f (i * 6 + 5)) := (dlS_at (R := R) (C := C) (d := d) (g := g) lt_i (by omega) lt_c lt_r e_c e_r).trans (dlM_2 h_2)
          have hl : lv_has ls 10 [(8, .int (nI (n - 1))), (7, .int (f ((i * 6) + 5))), (6, .int (f ((i * 6) + 4))), (5, .int (f ((i * 6) + 3))), (4, .int (nI r)), (3, .int (nI c)), (2, .int (nI 2)), (0, .ref (o 0)), (1, .int (nI i))] := by rw [show f (i * 6) = nI 2 from h_2] at hl; exact hl
          refine lv_iload_n hx hb dX4_deliver_101 rfl (lv_at hl 6 rfl) ?_
          refine lv_if_eq (tgt := 110) hx hb dX4_deliver_102 (by decide) (fun c9 => absurd c9 (by decide +kernel)) (fun _ => ?_)
          refine lv_iload_n hx hb dX4_deliver_105 rfl (lv_at hl 6 rfl) ?_
          refine lv_iconst (v := nI 2) hx hb dX4_deliver_106 (by decide) ?_
          refine lv_icmp_ne (tgt := 197) hx hb dX4_deliver_107 (by decide) (fun c9 => absurd (by decide +kernel) c9) (fun _ => ?_)
          refine lv_aload_n hx hb dX4_deliver_110 rfl (lv_at hl 7 rfl) ?_
          refine va_get (D := (dC, dI)) (ci := 4) (v := .ref (o 3)) (C := RX4) (T := TX4) (N := 16) hx hb hts inX4_deliver_X4 hown hK hP (0) rfl rfl 2 (by decide) (hts _ lkX4_deliver_16) (fun _ h9 => h9) rfl dX4_deliver_111 ?_
          refine lv_iload hx hb dX4_deliver_114 (lv_at hl 4 rfl) ?_
          refine q_zald hx hb hK hP (3) 2 (j := r) rfl rfl lt_r (Nat.le_of_ble_eq_true rfl) dX4_deliver_116 ?_
          refine lv_if_eq (tgt := 122) hx hb dX4_deliver_117 (by decide) (fun c_117_2 => ?_) (fun c_117_2 => ?_)
          · refine lv_iload_n hx hb dX4_deliver_122 rfl (lv_at hl 6 rfl) ?_
            refine lv_if_ne (tgt := 153) hx hb dX4_deliver_123 (by decide) (fun _ => ?_) (fun c9 => absurd c9 (by decide +kernel))
            refine lv_iload hx hb dX4_deliver_153 (lv_at hl 2 rfl) ?_
            refine lv_aload_n hx hb dX4_deliver_155 rfl (lv_at hl 7 rfl) ?_
            refine va_get (D := (dC, dI)) (ci := 4) (v := .ref (o 1)) (C := RX4) (T := TX4) (N := 16) hx hb hts inX4_deliver_X4 hown hK hP (0) rfl rfl 0 (by decide) (hts _ lkX4_deliver_7) (fun _ h9 => h9) rfl dX4_deliver_156 ?_
            refine lv_iload hx hb dX4_deliver_159 (lv_at hl 4 rfl) ?_
            refine q_iald hx hb hK hP (1) 0 (j := r) rfl rfl lt_r (Nat.le_of_ble_eq_true rfl) dX4_deliver_161 ?_
            refine lv_icmp_le (tgt := 183) hx hb dX4_deliver_162 (by decide) (fun c_162_2 => ?_) (fun c_162_2 => ?_)
            · refine lv_aload_n hx hb dX4_deliver_183 rfl (lv_at hl 7 rfl) ?_
              refine lv_iconst (v := nI 3) hx hb dX4_deliver_184 (by decide) ?_
              refine lv_iload_n hx hb dX4_deliver_185 rfl (lv_at hl 5 rfl) ?_
              refine lv_iload hx hb dX4_deliver_186 (lv_at hl 4 rfl) ?_
              refine lv_iload hx hb dX4_deliver_188 (lv_at hl 3 rfl) ?_
              refine lv_iconst (v := nI 0) hx hb dX4_deliver_190 (by decide) ?_
              refine lv_iconst (v := nI 0) hx hb dX4_deliver_191 (by decide) ?_
              refine goV (ws := (wMc o k (fun j => R j 0) (fun j => R j 1) (fun j => R j 2) (fun j => C j 0) (fun j => C j 1) (fun j => C j 2) (fun j => C j 3) an (fun j => C j 5) (fun j => C j 6) (fun j => C j 7) (drp f n i) g (cnF R 5) (n - 1) d)) (ws' := (wMc o k (fun j => R j 0) (fun j => R j 1) (fun j => R j 2) (fun j => C j 0) (fun j => C j 1) (fun j => C j 2) (fun j => C j 3) an (fun j => C j 5) (fun j => C j 6) (fun j => C j 7) (snd6 (drp f n i) (n - 1) (nI 3) (nI c) (nI r) (f ((i * 6) + 3)) (nI 0) (nI 0)) g (cnF R 5) ((n - 1) + 1) d)) (qFit_all rfl) hP hD hS hA (va_runV (rm := ({ frames := 0, cells := 0, slots := 0, locals := 0 } : Room)) (As := [.int (nI 3), .int (nI c), .int (nI r), .int (f ((i * 6) + 3)), .int (nI 0), .int (nI 0)]) (rest := []) ⟨hx, hb, hml, hown, hts⟩ (MetV.at (k_X4_send l dC dI o k (fun j => R j 0) (fun j => R j 1) (fun j => R j 2) (fun j => C j 0) (fun j => C j 1) (fun j => C j 2) (fun j => C j 3) an (fun j => C j 5) (fun j => C j 6) (fun j => C j 7) (drp f n i) g (cnF R 5) (n - 1) d (by omega) (nI 3) (nI c) (nI r) (f ((i * 6) + 3)) (nI 0) (nI 0)) H.size) (cwV 6 hts gX4_deliver_X4_send rfl rfl rfl (by decide +kernel) ⟨Nat.le_of_ble_eq_true rfl, Nat.le_of_ble_eq_true rfl⟩) (preWV hK hP hD (va_recv hK hP (ci := 4) (q0 := 0) rfl rfl)) rfl rfl hl.1 rfl (lv_room (Nat.le_of_ble_eq_true rfl)) dX4_deliver_192 ⟨Nat.le_of_ble_eq_true rfl, Nat.le_of_ble_eq_true rfl⟩) (fun H locs hP hD hS => ?_)
              refine lv_iconst (v := nI 1) hx hb dX4_deliver_195 (by decide) ?_
              have e_d : dlS (R, C, n, f, d, g) (nI i) = (if (f (i * 6 + 4)) ≤ R r 0 then R else up2 (up2 R r 0 (f (i * 6 + 4))) r 1 (f (i * 6 + 5)), C, n - 1 + 1, snd6 (drp f n i) (n - 1) (nI 3) (nI c) (nI r) (f (i * 6 + 3)) (nI 0) (nI 0), d, g) := e_d.trans (if_pos c_117_2)
              rw [if_pos c_162_2] at e_d
              exact retJ hx hb hr hlk dX4_deliver_196 hS (an) (by rw [e_d]; exact hP) (by rw [e_d]; exact hAn) (by rw [dl_v (σ := (R, C, n, f, d, g)) lt_i (show n < 2 ^ 31 by omega) e_d]; exact (sub_1 (n - 1)).symm)
            · refine lv_aload_n hx hb dX4_deliver_165 rfl (lv_at hl 7 rfl) ?_
              refine va_get (D := (dC, dI)) (ci := 4) (v := .ref (o 1)) (C := RX4) (T := TX4) (N := 16) hx hb hts inX4_deliver_X4 hown hK hP (0) rfl rfl 0 (by decide) (hts _ lkX4_deliver_7) (fun _ h9 => h9) rfl dX4_deliver_166 ?_
              refine lv_iload hx hb dX4_deliver_169 (lv_at hl 4 rfl) ?_
              refine lv_iload hx hb dX4_deliver_171 (lv_at hl 2 rfl) ?_
              refine q_iast (ws' := (wMc o k (upd (fun j => R j 0) r (f ((i * 6) + 4))) (fun j => R j 1) (fun j => R j 2) (fun j => C j 0) (fun j => C j 1) (fun j => C j 2) (fun j => C j 3) an (fun j => C j 5) (fun j => C j 6) (fun j => C j 7) (drp f n i) g (cnF R 5) (n - 1) d)) hx hb hK hP hD hS (1) 0 (j := r) rfl rfl lt_r (Nat.le_of_ble_eq_true rfl) rfl dX4_deliver_173 (fun H locs hP hD hS => ?_)
              refine lv_aload_n hx hb dX4_deliver_174 rfl (lv_at hl 7 rfl) ?_
              refine va_get (D := (dC, dI)) (ci := 4) (v := .ref (o 2)) (C := RX4) (T := TX4) (N := 16) hx hb hts inX4_deliver_X4 hown hK hP (0) rfl rfl 1 (by decide) (hts _ lkX4_deliver_13) (fun _ h9 => h9) rfl dX4_deliver_175 ?_
              refine lv_iload hx hb dX4_deliver_178 (lv_at hl 4 rfl) ?_
              refine lv_iload hx hb dX4_deliver_180 (lv_at hl 1 rfl) ?_
              refine q_iast (ws' := (wMc o k (upd (fun j => R j 0) r (f ((i * 6) + 4))) (upd (fun j => R j 1) r (f ((i * 6) + 5))) (fun j => R j 2) (fun j => C j 0) (fun j => C j 1) (fun j => C j 2) (fun j => C j 3) an (fun j => C j 5) (fun j => C j 6) (fun j => C j 7) (drp f n i) g (cnF R 5) (n - 1) d)) hx hb hK hP hD hS (2) 1 (j := r) rfl rfl lt_r (Nat.le_of_ble_eq_true rfl) rfl dX4_deliver_182 (fun H locs hP hD hS => ?_)
              refine lv_aload_n hx hb dX4_deliver_183 rfl (lv_at hl 7 rfl) ?_
              refine lv_iconst (v := nI 3) hx hb dX4_deliver_184 (by decide) ?_
              refine lv_iload_n hx hb dX4_deliver_185 rfl (lv_at hl 5 rfl) ?_
              refine lv_iload hx hb dX4_deliver_186 (lv_at hl 4 rfl) ?_
              refine lv_iload hx hb dX4_deliver_188 (lv_at hl 3 rfl) ?_
              refine lv_iconst (v := nI 0) hx hb dX4_deliver_190 (by decide) ?_
              refine lv_iconst (v := nI 0) hx hb dX4_deliver_191 (by decide) ?_
              refine goV (ws := (wMc o k (upd (fun j => R j 0) r (f ((i * 6) + 4))) (upd (fun j => R j 1) r (f ((i * 6) + 5))) (fun j => R j 2) (fun j => C j 0) (fun j => C j 1) (fun j => C j 2) (fun j => C j 3) an (fun j => C j 5) (fun j => C j 6) (fun j => C j 7) (drp f n i) g (cnF R 5) (n - 1) d)) (ws' := (wMc o k (upd (fun j => R j 0) r (f ((i * 6) + 4))) (upd (fun j => R j 1) r (f ((i * 6) + 5))) (fun j => R j 2) (fun j => C j 0) (fun j => C j 1) (fun j => C j 2) (fun j => C j 3) an (fun j => C j 5) (fun j => C j 6) (fun j => C j 7) (snd6 (drp f n i) (n - 1) (nI 3) (nI c) (nI r) (f ((i * 6) + 3)) (nI 0) (nI 0)) g (cnF R 5) ((n - 1) + 1) d)) (qFit_all rfl) hP hD hS hA (va_runV (rm := ({ frames := 0, cells := 0, slots := 0, locals := 0 } : Room)) (As := [.int (nI 3), .int (nI c), .int (nI r), .int (f ((i * 6) + 3)), .int (nI 0), .int (nI 0)]) (rest := []) ⟨hx, hb, hml, hown, hts⟩ (MetV.at (k_X4_send l dC dI o k (upd (fun j => R j 0) r (f ((i * 6) + 4))) (upd (fun j => R j 1) r (f ((i * 6) + 5))) (fun j => R j 2) (fun j => C j 0) (fun j => C j 1) (fun j => C j 2) (fun j => C j 3) an (fun j => C j 5) (fun j => C j 6) (fun j => C j 7) (drp f n i) g (cnF R 5) (n - 1) d (by omega) (nI 3) (nI c) (nI r) (f ((i * 6) + 3)) (nI 0) (nI 0)) H.size) (cwV 6 hts gX4_deliver_X4_send rfl rfl rfl (by decide +kernel) ⟨Nat.le_of_ble_eq_true rfl, Nat.le_of_ble_eq_true rfl⟩) (preWV hK hP hD (va_recv hK hP (ci := 4) (q0 := 0) rfl rfl)) rfl rfl hl.1 rfl (lv_room (Nat.le_of_ble_eq_true rfl)) dX4_deliver_192 ⟨Nat.le_of_ble_eq_true rfl, Nat.le_of_ble_eq_true rfl⟩) (fun H locs hP hD hS => ?_)
              refine lv_iconst (v := nI 1) hx hb dX4_deliver_195 (by decide) ?_
              have e_d : dlS (R, C, n, f, d, g) (nI i) = (if (f (i * 6 + 4)) ≤ R r 0 then R else up2 (up2 R r 0 (f (i * 6 + 4))) r 1 (f (i * 6 + 5)), C, n - 1 + 1, snd6 (drp f n i) (n - 1) (nI 3) (nI c) (nI r) (f (i * 6 + 3)) (nI 0) (nI 0), d, g) := e_d.trans (if_pos c_117_2)
              rw [if_neg c_162_2] at e_d
              exact retJ hx hb hr hlk dX4_deliver_196 hS (an) (by rw [e_d]; show va_P _ _ (wM o k (up2 (up2 R r 0 (f (i * 6 + 4))) r 1 (f (i * 6 + 5))) C an (n - 1 + 1) (snd6 (drp f n i) (n - 1) (nI 3) (nI c) (nI r) (f (i * 6 + 3)) (nI 0) (nI 0)) d g (cnF (up2 (up2 R r 0 (f (i * 6 + 4))) r 1 (f (i * 6 + 5))) 5)) _; rw [cnF_01]; exact va_Pe (wM_of (fun q => by simp [upd, up2]) (fun q => by simp [upd, up2]) (fun q => by simp [up2]) (fun _ => rfl) (fun _ => rfl) (fun _ => rfl) (fun _ => rfl) (fun _ => rfl) (fun _ => rfl) (fun _ => rfl)) hP) (by rw [e_d]; exact hAn) (by rw [dl_v (σ := (R, C, n, f, d, g)) lt_i (show n < 2 ^ 31 by omega) e_d]; exact (sub_1 (n - 1)).symm)
          · refine lv_iconst (v := nI 0) hx hb dX4_deliver_120 (by decide) ?_
            have e_d : dlS (R, C, n, f, d, g) (nI i) = (R, C, n - 1, drp f n i, d, g) := e_d.trans (str_no c_117_2)
            exact retJ hx hb hr hlk dX4_deliver_121 hS (an) (by rw [e_d]; exact hP) (by rw [e_d]; exact hAn) (by rw [dl_v (σ := (R, C, n, f, d, g)) lt_i (show n < 2 ^ 31 by omega) e_d]; exact (sub_0 (n - 1)).symm)
        · have e_d : dlS (R, C, n, f, d, g) (nI i) = stStd (R, C, n - 1, drp f n i, d, g) c r (f (i * 6 + 3)) := (dlS_at (R := R) (C := C) (d := d) (g := g) lt_i (by omega) lt_c lt_r e_c e_r).trans (dlM_3 h_0 h_1 h_2)
          refine lv_iload_n hx hb dX4_deliver_101 rfl (lv_at hl 6 rfl) ?_
          refine lv_if_eq (tgt := 110) hx hb dX4_deliver_102 (by decide) (fun c_102_3 => ?_) (fun c_102_3 => ?_)
          · exact absurd c_102_3 h_0
          · refine lv_iload_n hx hb dX4_deliver_105 rfl (lv_at hl 6 rfl) ?_
            refine lv_iconst (v := nI 2) hx hb dX4_deliver_106 (by decide) ?_
            refine lv_icmp_ne (tgt := 197) hx hb dX4_deliver_107 (by decide) (fun c_107_3 => ?_) (fun c_107_3 => ?_)
            · refine lv_aload_n hx hb dX4_deliver_197 rfl (lv_at hl 7 rfl) ?_
              refine va_get (D := (dC, dI)) (ci := 4) (v := .ref (o 5)) (C := RX4) (T := TX4) (N := 16) hx hb hts inX4_deliver_X4 hown hK hP (0) rfl rfl 5 (by decide) (hts _ lkX4_deliver_23) (fun _ h9 => h9) rfl dX4_deliver_198 ?_
              refine lv_iload_n hx hb dX4_deliver_201 rfl (lv_at hl 5 rfl) ?_
              refine q_iald hx hb hK hP (5) 4 (j := c) rfl rfl lt_c (Nat.le_of_ble_eq_true rfl) dX4_deliver_202 ?_
              refine lv_iload hx hb dX4_deliver_203 (lv_at hl 3 rfl) ?_
              refine lv_icmp_ne (tgt := 242) hx hb dX4_deliver_205 (by decide) (fun c_205_3 => ?_) (fun c_205_3 => ?_)
              · refine lv_iconst (v := nI 0) hx hb dX4_deliver_242 (by decide) ?_
                have e_d : dlS (R, C, n, f, d, g) (nI i) = (R, C, n - 1, drp f n i, d, g) := e_d.trans (std_no (fun z => c_205_3 z.1))
                exact retJ hx hb hr hlk dX4_deliver_243 hS (an) (by rw [e_d]; exact hP) (by rw [e_d]; exact hAn) (by rw [dl_v (σ := (R, C, n, f, d, g)) lt_i (show n < 2 ^ 31 by omega) e_d]; exact (sub_0 (n - 1)).symm)
              · refine lv_aload_n hx hb dX4_deliver_208 rfl (lv_at hl 7 rfl) ?_
                refine va_get (D := (dC, dI)) (ci := 4) (v := .ref (o 4)) (C := RX4) (T := TX4) (N := 16) hx hb hts inX4_deliver_X4 hown hK hP (0) rfl rfl 4 (by decide) (hts _ lkX4_deliver_20) (fun _ h9 => h9) rfl dX4_deliver_209 ?_
                refine lv_iload_n hx hb dX4_deliver_212 rfl (lv_at hl 5 rfl) ?_
                refine q_iald hx hb hK hP (4) 3 (j := c) rfl rfl lt_c (Nat.le_of_ble_eq_true rfl) dX4_deliver_213 ?_
                refine lv_iload_n hx hb dX4_deliver_214 rfl (lv_at hl 6 rfl) ?_
                refine lv_iconst (v := nI 1) hx hb dX4_deliver_215 (by decide) ?_
                refine lv_icmp_ne (tgt := 223) hx hb dX4_deliver_216 (by decide) (fun c_216_3 => ?_) (fun c_216_3 => ?_)
                · refine lv_iconst (v := nI 2) hx hb dX4_deliver_223 (by decide) ?_
                  refine lv_icmp_ne (tgt := 242) hx hb dX4_deliver_224 (by decide) (fun c_224_3 => ?_) (fun c_224_3 => ?_)
                  · refine lv_iconst (v := nI 0) hx hb dX4_deliver_242 (by decide) ?_
                    have e_d : dlS (R, C, n, f, d, g) (nI i) = (R, C, n - 1, drp f n i, d, g) := e_d.trans (std_no (fun z => c_224_3 z.2.1))
                    exact retJ hx hb hr hlk dX4_deliver_243 hS (an) (by rw [e_d]; exact hP) (by rw [e_d]; exact hAn) (by rw [dl_v (σ := (R, C, n, f, d, g)) lt_i (show n < 2 ^ 31 by omega) e_d]; exact (sub_0 (n - 1)).symm)
                  · have e_n : an c = nI a := (hAn c lt_c (by rw [c_224_3]; decide +kernel)).trans e_a
                    refine lv_aload_n hx hb dX4_deliver_227 rfl (lv_at hl 7 rfl) ?_
                    refine va_get (D := (dC, dI)) (ci := 4) (v := .ref (o 8)) (C := RX4) (T := TX4) (N := 16) hx hb hts inX4_deliver_X4 hown hK hP (0) rfl rfl 8 (by decide) (hts _ lkX4_deliver_32) (fun _ h9 => h9) rfl dX4_deliver_228 ?_
                    refine lv_iload_n hx hb dX4_deliver_231 rfl (lv_at hl 5 rfl) ?_
                    refine q_iald hx hb hK hP (8) 7 (j := c) rfl rfl lt_c (Nat.le_of_ble_eq_true rfl) dX4_deliver_232 ?_
                    refine lv_iload hx hb dX4_deliver_233 (lv_at hl 4 rfl) ?_
                    refine lv_ishr hx hb dX4_deliver_235 ?_
                    refine lv_iconst (v := nI 1) hx hb dX4_deliver_236 (by decide) ?_
                    refine lv_iand hx hb dX4_deliver_237 ?_
                    refine lv_iconst (v := nI 1) hx hb dX4_deliver_238 (by decide) ?_
                    refine W.eq (g2 := F0 m 239 ls [.int (nI 1), .int ((nI a >>> (nI r &&& 31)) &&& nI 1)]) (by rw [e_n]) ?_
                    refine lv_icmp_ne (tgt := 244) hx hb dX4_deliver_239 (by decide) (fun c_239_3 => ?_) (fun c_239_3 => ?_)
                    · refine lv_aload_n hx hb dX4_deliver_244 rfl (lv_at hl 7 rfl) ?_
                      refine va_get (D := (dC, dI)) (ci := 4) (v := .ref (o 8)) (C := RX4) (T := TX4) (N := 16) hx hb hts inX4_deliver_X4 hown hK hP (0) rfl rfl 8 (by decide) (hts _ lkX4_deliver_32) (fun _ h9 => h9) rfl dX4_deliver_245 ?_
                      refine lv_iload_n hx hb dX4_deliver_248 rfl (lv_at hl 5 rfl) ?_
                      refine lv_aload_n hx hb dX4_deliver_249 rfl (lv_at hl 7 rfl) ?_
                      refine va_get (D := (dC, dI)) (ci := 4) (v := .ref (o 8)) (C := RX4) (T := TX4) (N := 16) hx hb hts inX4_deliver_X4 hown hK hP (0) rfl rfl 8 (by decide) (hts _ lkX4_deliver_32) (fun _ h9 => h9) rfl dX4_deliver_250 ?_
                      refine lv_iload_n hx hb dX4_deliver_253 rfl (lv_at hl 5 rfl) ?_
                      refine q_iald hx hb hK hP (8) 7 (j := c) rfl rfl lt_c (Nat.le_of_ble_eq_true rfl) dX4_deliver_254 ?_
                      refine lv_iconst (v := nI 1) hx hb dX4_deliver_255 (by decide) ?_
                      refine lv_iload hx hb dX4_deliver_256 (lv_at hl 4 rfl) ?_
                      refine lv_ishl hx hb dX4_deliver_258 ?_
                      refine lv_ior hx hb dX4_deliver_259 ?_
                      refine qtop (y := nI (a ||| 2 ^ r)) (by rw [e_n]; exact (hear_bits a lt_a r lt_r).1) ?_
                      refine q_iast (ws' := (wMc o k (fun j => R j 0) (fun j => R j 1) (fun j => R j 2) (fun j => C j 0) (fun j => C j 1) (fun j => C j 2) (fun j => C j 3) (upd an c (nI (a ||| 2 ^ r))) (fun j => C j 5) (fun j => C j 6) (fun j => C j 7) (drp f n i) g (cnF R 5) (n - 1) d)) hx hb hK hP hD hS (8) 7 (j := c) rfl rfl lt_c (Nat.le_of_ble_eq_true rfl) rfl dX4_deliver_260 (fun H locs hP hD hS => ?_)
                      refine lv_iload_n hx hb dX4_deliver_261 rfl (lv_at hl 6 rfl) ?_
                      refine lv_iconst (v := nI 1) hx hb dX4_deliver_262 (by decide) ?_
                      refine lv_icmp_ne (tgt := 293) hx hb dX4_deliver_263 (by decide) (fun c_263_3 => ?_) (fun c_263_3 => ?_)
                      · have e_T4 : (heaC C c (nI r)) c 4 = nI (a ||| 2 ^ r) := by rw [heaC4, e_a]; exact (hear_bits a lt_a r lt_r).1
                        have e_W : (wMc o k (fun j => R j 0) (fun j => R j 1) (fun j => R j 2) (fun j => C j 0) (fun j => C j 1) (fun j => C j 2) (fun j => C j 3) (upd an c (nI (a ||| 2 ^ r))) (fun j => C j 5) (fun j => C j 6) (fun j => C j 7) (drp f n i) g (cnF R 5) (n - 1) d) = (wMc o k (fun j => R j 0) (fun j => R j 1) (fun j => R j 2) (fun j => (heaC C c (nI r)) j 0) (fun j => (heaC C c (nI r)) j 1) (fun j => (heaC C c (nI r)) j 2) (fun j => (heaC C c (nI r)) j 3) (upd an c (nI (a ||| 2 ^ r))) (fun j => (heaC C c (nI r)) j 5) (fun j => (heaC C c (nI r)) j 6) (fun j => (heaC C c (nI r)) j 7) (drp f n i) g (cnF R 5) (n - 1) d) := (wM_of (fun _ => rfl) (fun _ => rfl) (fun _ => rfl) (fun q => by simp [upd, heaC, up2]) (fun q => by simp [upd, heaC, up2]) (fun q => by simp [upd, heaC, up2]) (fun q => by simp [upd, heaC, up2]) (fun q => by simp [upd, heaC, up2]) (fun q => by simp [upd, heaC, up2]) (fun q => by simp [upd, heaC, up2]))
                        have hP : va_P (dC, dI) vwCl (wMc o k (fun j => R j 0) (fun j => R j 1) (fun j => R j 2) (fun j => (heaC C c (nI r)) j 0) (fun j => (heaC C c (nI r)) j 1) (fun j => (heaC C c (nI r)) j 2) (fun j => (heaC C c (nI r)) j 3) (upd an c (nI (a ||| 2 ^ r))) (fun j => (heaC C c (nI r)) j 5) (fun j => (heaC C c (nI r)) j 6) (fun j => (heaC C c (nI r)) j 7) (drp f n i) g (cnF R 5) (n - 1) d) H := va_Pe e_W hP
                        have hD : va_D A (wMc o k (fun j => R j 0) (fun j => R j 1) (fun j => R j 2) (fun j => (heaC C c (nI r)) j 0) (fun j => (heaC C c (nI r)) j 1) (fun j => (heaC C c (nI r)) j 2) (fun j => (heaC C c (nI r)) j 3) (upd an c (nI (a ||| 2 ^ r))) (fun j => (heaC C c (nI r)) j 5) (fun j => (heaC C c (nI r)) j 6) (fun j => (heaC C c (nI r)) j 7) (drp f n i) g (cnF R 5) (n - 1) d) := va_De e_W hD
                        have e_A : aw (C c) (nI 2) (nI r) (f (i * 6 + 3)) := ⟨c_205_3, c_224_3, by rw [e_a]; exact Classical.byContradiction (fun z => c_239_3 ((shr_bit a lt_a r lt_r).mpr z))⟩
                        have n_T : ∀ q b, q ≠ c → (heaC C c (nI r)) q b = C q b := fun q b h => heaC_ne h
                        have e_T1 : (heaC C c (nI r)) c 1 = C c 1 := by simp [heaC, up2]
                        have e_d : dlS (R, C, n, f, d, g) (nI i) = (if 3 ≤ bts ((heaC C c (nI r)) c 4) then stFin (R, heaC C c (nI r), n - 1, drp f n i, d, g) c else (R, heaC C c (nI r), n - 1, drp f n i, d, g)) := e_d.trans (if_pos e_A)
                        clear e_W
                        generalize heaC C c (nI r) = T at hP hD e_T4 n_T e_T1 e_d
                        rw [e_T4, bts_nI (hear_bits a lt_a r lt_r).2] at e_d
                        refine lv_aload_n hx hb dX4_deliver_293 rfl (lv_at hl 7 rfl) ?_
                        refine va_get (D := (dC, dI)) (ci := 4) (v := .ref (o 8)) (C := RX4) (T := TX4) (N := 16) hx hb hts inX4_deliver_X4 hown hK hP (0) rfl rfl 8 (by decide) (hts _ lkX4_deliver_32) (fun _ h9 => h9) rfl dX4_deliver_294 ?_
                        refine lv_iload_n hx hb dX4_deliver_297 rfl (lv_at hl 5 rfl) ?_
                        refine q_iald hx hb hK hP (8) 7 (j := c) rfl rfl lt_c (Nat.le_of_ble_eq_true rfl) dX4_deliver_298 ?_
                        refine goS (va_runS (rm := ({ frames := 0, cells := 0, slots := 0, locals := 0 } : Room)) (As := [.int ((upd an c (nI (a ||| 2 ^ r))) c)]) (rest := []) ⟨hx, hb, hml, hown, hts⟩ (MetS.at (k_X4_bits l dC dI ((upd an c (nI (a ||| 2 ^ r))) c))) (va_cwS 1 hts gX4_deliver_X4_bits rfl rfl rfl (by decide +kernel) ⟨Nat.le_of_ble_eq_true rfl, Nat.le_of_ble_eq_true rfl⟩) (preSS (hK.sub [] rfl) va_P0) rfl rfl hl.1 rfl (lv_room (Nat.le_of_ble_eq_true rfl)) dX4_deliver_299 ⟨Nat.le_of_ble_eq_true rfl, Nat.le_of_ble_eq_true rfl⟩) ?_
                        refine qtop (y := nI (bits (a ||| 2 ^ r))) (by rw [pk_us]; exact bitM_bits _ (hear_bits a lt_a r lt_r).2) ?_
                        refine lv_iconst (v := nI 3) hx hb dX4_deliver_302 (by decide) ?_
                        refine lv_icmp_ge (tgt := 308) hx hb dX4_deliver_303 (by decide) (fun c_303_3 => ?_) (fun c_303_3 => ?_)
                        · have h_Q : 3 ≤ bits (a ||| 2 ^ r) := (Nat.lt_or_ge (bits (a ||| 2 ^ r)) 3).elim (fun w => absurd c_303_3 (nI_ge w (by decide))) id
                          rw [if_pos h_Q] at e_d
                          refine lv_iload_n hx hb dX4_deliver_308 rfl (lv_at hl 6 rfl) ?_
                          refine lv_iconst (v := nI 1) hx hb dX4_deliver_309 (by decide) ?_
                          refine lv_icmp_ne (tgt := 431) hx hb dX4_deliver_310 (by decide) (fun c_310_3 => ?_) (fun c_310_3 => ?_)
                          · refine lv_aload_n hx hb dX4_deliver_431 rfl (lv_at hl 7 rfl) ?_
                            refine va_get (D := (dC, dI)) (ci := 4) (v := .ref (o 4)) (C := RX4) (T := TX4) (N := 16) hx hb hts inX4_deliver_X4 hown hK hP (0) rfl rfl 4 (by decide) (hts _ lkX4_deliver_20) (fun _ h9 => h9) rfl dX4_deliver_432 ?_
                            refine lv_iload_n hx hb dX4_deliver_435 rfl (lv_at hl 5 rfl) ?_
                            refine lv_iconst (v := nI 0) hx hb dX4_deliver_436 (by decide) ?_
                            refine q_iast (ws' := (wMc o k (fun j => R j 0) (fun j => R j 1) (fun j => R j 2) (upd (fun j => T j 0) c (nI 0)) (fun j => T j 1) (fun j => T j 2) (fun j => T j 3) (upd an c (nI (a ||| 2 ^ r))) (fun j => T j 5) (fun j => T j 6) (fun j => T j 7) (drp f n i) g (cnF R 5) (n - 1) d)) hx hb hK hP hD hS (4) 3 (j := c) rfl rfl lt_c (Nat.le_of_ble_eq_true rfl) rfl dX4_deliver_437 (fun H locs hP hD hS => ?_)
                            refine lv_iconst (v := nI 5) hx hb dX4_deliver_438 (by decide) ?_
                            refine lv_aload_n hx hb dX4_deliver_439 rfl (lv_at hl 7 rfl) ?_
                            refine va_get (D := (dC, dI)) (ci := 4) (v := .int (nI d)) (C := RX4) (T := TX4) (N := 16) hx hb hts inX4_deliver_X4 hown hK hP (0) rfl rfl 15 (by decide) (hts _ lkX4_deliver_78) (fun _ h9 => h9) rfl dX4_deliver_440 ?_
                            refine lv_imul hx hb dX4_deliver_443 ?_
                            refine qtop (y := nI (d * 5)) (mulc _ _) ?_
                            refine lv_istore (lv' := [(9, .int (nI (d * 5))), (8, .int (nI (n - 1))), (7, .int (f ((i * 6) + 5))), (6, .int (f ((i * 6) + 4))), (5, .int (f ((i * 6) + 3))), (4, .int (nI r)), (3, .int (nI c)), (2, .int (f (i * 6))), (0, .ref (o 0)), (1, .int (nI i))]) hx hb dX4_deliver_444 hl (by decide) rfl (fun ls hl => ?_)
                            refine lv_aload_n hx hb dX4_deliver_446 rfl (lv_at hl 8 rfl) ?_
                            refine va_get (D := (dC, dI)) (ci := 4) (v := .ref (o 13)) (C := RX4) (T := TX4) (N := 16) hx hb hts inX4_deliver_X4 hown hK hP (0) rfl rfl 14 (by decide) (hts _ lkX4_deliver_47) (fun _ h9 => h9) rfl dX4_deliver_447 ?_
                            refine lv_iload hx hb dX4_deliver_450 (lv_at hl 0 rfl) ?_
                            refine lv_iload_n hx hb dX4_deliver_452 rfl (lv_at hl 6 rfl) ?_
                            refine q_iast (ws' := (wMc o k (fun j => R j 0) (fun j => R j 1) (fun j => R j 2) (upd (fun j => T j 0) c (nI 0)) (fun j => T j 1) (fun j => T j 2) (fun j => T j 3) (upd an c (nI (a ||| 2 ^ r))) (fun j => T j 5) (fun j => T j 6) (fun j => T j 7) (drp f n i) (upd g (d * 5) (nI c)) (cnF R 5) (n - 1) d)) hx hb hK hP hD hS (13) 12 (j := d * 5) rfl rfl (by omega) (Nat.le_of_ble_eq_true rfl) rfl dX4_deliver_453 (fun H locs hP hD hS => ?_)
                            refine lv_aload_n hx hb dX4_deliver_454 rfl (lv_at hl 8 rfl) ?_
                            refine va_get (D := (dC, dI)) (ci := 4) (v := .ref (o 13)) (C := RX4) (T := TX4) (N := 16) hx hb hts inX4_deliver_X4 hown hK hP (0) rfl rfl 14 (by decide) (hts _ lkX4_deliver_47) (fun _ h9 => h9) rfl dX4_deliver_455 ?_
                            refine lv_iload hx hb dX4_deliver_458 (lv_at hl 0 rfl) ?_
                            refine lv_iconst (v := nI 1) hx hb dX4_deliver_460 (by decide) ?_
                            refine lv_iadd hx hb dX4_deliver_461 ?_
                            refine qtop (y := nI ((d * 5) + 1)) (nI_add _ _) ?_
                            refine lv_iload hx hb dX4_deliver_462 (lv_at hl 4 rfl) ?_
                            refine q_iast (ws' := (wMc o k (fun j => R j 0) (fun j => R j 1) (fun j => R j 2) (upd (fun j => T j 0) c (nI 0)) (fun j => T j 1) (fun j => T j 2) (fun j => T j 3) (upd an c (nI (a ||| 2 ^ r))) (fun j => T j 5) (fun j => T j 6) (fun j => T j 7) (drp f n i) (upd (upd g (d * 5) (nI c)) ((d * 5) + 1) (f ((i * 6) + 3))) (cnF R 5) (n - 1) d)) hx hb hK hP hD hS (13) 12 (j := (d * 5) + 1) rfl rfl (by omega) (Nat.le_of_ble_eq_true rfl) rfl dX4_deliver_464 (fun H locs hP hD hS => ?_)
                            refine lv_aload_n hx hb dX4_deliver_465 rfl (lv_at hl 8 rfl) ?_
                            refine va_get (D := (dC, dI)) (ci := 4) (v := .ref (o 13)) (C := RX4) (T := TX4) (N := 16) hx hb hts inX4_deliver_X4 hown hK hP (0) rfl rfl 14 (by decide) (hts _ lkX4_deliver_47) (fun _ h9 => h9) rfl dX4_deliver_466 ?_
                            refine lv_iload hx hb dX4_deliver_469 (lv_at hl 0 rfl) ?_
                            refine lv_iconst (v := nI 2) hx hb dX4_deliver_471 (by decide) ?_
                            refine lv_iadd hx hb dX4_deliver_472 ?_
                            refine qtop (y := nI ((d * 5) + 2)) (nI_add _ _) ?_
                            refine lv_aload_n hx hb dX4_deliver_473 rfl (lv_at hl 8 rfl) ?_
                            refine va_get (D := (dC, dI)) (ci := 4) (v := .ref (o 6)) (C := RX4) (T := TX4) (N := 16) hx hb hts inX4_deliver_X4 hown hK hP (0) rfl rfl 6 (by decide) (hts _ lkX4_deliver_26) (fun _ h9 => h9) rfl dX4_deliver_474 ?_
                            refine lv_iload_n hx hb dX4_deliver_477 rfl (lv_at hl 6 rfl) ?_
                            refine q_zald hx hb hK hP (6) 5 (j := c) rfl rfl lt_c (Nat.le_of_ble_eq_true rfl) dX4_deliver_478 ?_
                            refine lv_if_eq (tgt := 486) hx hb dX4_deliver_479 (by decide) (fun c_479_3 => ?_) (fun c_479_3 => ?_)
                            · refine lv_iconst (v := nI 0) hx hb dX4_deliver_486 (by decide) ?_
                              refine q_iast (ws' := (wMc o k (fun j => R j 0) (fun j => R j 1) (fun j => R j 2) (upd (fun j => T j 0) c (nI 0)) (fun j => T j 1) (fun j => T j 2) (fun j => T j 3) (upd an c (nI (a ||| 2 ^ r))) (fun j => T j 5) (fun j => T j 6) (fun j => T j 7) (drp f n i) (upd (upd (upd g (d * 5) (nI c)) ((d * 5) + 1) (f ((i * 6) + 3))) ((d * 5) + 2) (nI 0)) (cnF R 5) (n - 1) d)) hx hb hK hP hD hS (13) 12 (j := (d * 5) + 2) rfl rfl (by omega) (Nat.le_of_ble_eq_true rfl) rfl dX4_deliver_487 (fun H locs hP hD hS => ?_)
                              refine lv_aload_n hx hb dX4_deliver_488 rfl (lv_at hl 8 rfl) ?_
                              refine va_get (D := (dC, dI)) (ci := 4) (v := .ref (o 13)) (C := RX4) (T := TX4) (N := 16) hx hb hts inX4_deliver_X4 hown hK hP (0) rfl rfl 14 (by decide) (hts _ lkX4_deliver_47) (fun _ h9 => h9) rfl dX4_deliver_489 ?_
                              refine lv_iload hx hb dX4_deliver_492 (lv_at hl 0 rfl) ?_
                              refine lv_iconst (v := nI 3) hx hb dX4_deliver_494 (by decide) ?_
                              refine lv_iadd hx hb dX4_deliver_495 ?_
                              refine qtop (y := nI ((d * 5) + 3)) (nI_add _ _) ?_
                              refine lv_aload_n hx hb dX4_deliver_496 rfl (lv_at hl 8 rfl) ?_
                              refine va_get (D := (dC, dI)) (ci := 4) (v := .ref (o 10)) (C := RX4) (T := TX4) (N := 16) hx hb hts inX4_deliver_X4 hown hK hP (0) rfl rfl 10 (by decide) (hts _ lkX4_deliver_38) (fun _ h9 => h9) rfl dX4_deliver_497 ?_
                              refine lv_iload_n hx hb dX4_deliver_500 rfl (lv_at hl 6 rfl) ?_
                              refine q_iald hx hb hK hP (10) 9 (j := c) rfl rfl lt_c (Nat.le_of_ble_eq_true rfl) dX4_deliver_501 ?_
                              refine q_iast (ws' := (wMc o k (fun j => R j 0) (fun j => R j 1) (fun j => R j 2) (upd (fun j => T j 0) c (nI 0)) (fun j => T j 1) (fun j => T j 2) (fun j => T j 3) (upd an c (nI (a ||| 2 ^ r))) (fun j => T j 5) (fun j => T j 6) (fun j => T j 7) (drp f n i) (upd (upd (upd (upd g (d * 5) (nI c)) ((d * 5) + 1) (f ((i * 6) + 3))) ((d * 5) + 2) (nI 0)) ((d * 5) + 3) (T c 6)) (cnF R 5) (n - 1) d)) hx hb hK hP hD hS (13) 12 (j := (d * 5) + 3) rfl rfl (by omega) (Nat.le_of_ble_eq_true rfl) rfl dX4_deliver_502 (fun H locs hP hD hS => ?_)
                              refine lv_aload_n hx hb dX4_deliver_503 rfl (lv_at hl 8 rfl) ?_
                              refine va_get (D := (dC, dI)) (ci := 4) (v := .ref (o 13)) (C := RX4) (T := TX4) (N := 16) hx hb hts inX4_deliver_X4 hown hK hP (0) rfl rfl 14 (by decide) (hts _ lkX4_deliver_47) (fun _ h9 => h9) rfl dX4_deliver_504 ?_
                              refine lv_iload hx hb dX4_deliver_507 (lv_at hl 0 rfl) ?_
                              refine lv_iconst (v := nI 4) hx hb dX4_deliver_509 (by decide) ?_
                              refine lv_iadd hx hb dX4_deliver_510 ?_
                              refine qtop (y := nI ((d * 5) + 4)) (nI_add _ _) ?_
                              refine lv_aload_n hx hb dX4_deliver_511 rfl (lv_at hl 8 rfl) ?_
                              refine va_get (D := (dC, dI)) (ci := 4) (v := .ref (o 9)) (C := RX4) (T := TX4) (N := 16) hx hb hts inX4_deliver_X4 hown hK hP (0) rfl rfl 9 (by decide) (hts _ lkX4_deliver_35) (fun _ h9 => h9) rfl dX4_deliver_512 ?_
                              refine lv_iload_n hx hb dX4_deliver_515 rfl (lv_at hl 6 rfl) ?_
                              refine q_iald hx hb hK hP (9) 8 (j := c) rfl rfl lt_c (Nat.le_of_ble_eq_true rfl) dX4_deliver_516 ?_
                              refine q_iast (ws' := (wMc o k (fun j => R j 0) (fun j => R j 1) (fun j => R j 2) (upd (fun j => T j 0) c (nI 0)) (fun j => T j 1) (fun j => T j 2) (fun j => T j 3) (upd an c (nI (a ||| 2 ^ r))) (fun j => T j 5) (fun j => T j 6) (fun j => T j 7) (drp f n i) (upd (upd (upd (upd (upd g (d * 5) (nI c)) ((d * 5) + 1) (f ((i * 6) + 3))) ((d * 5) + 2) (nI 0)) ((d * 5) + 3) (T c 6)) ((d * 5) + 4) (T c 5)) (cnF R 5) (n - 1) d)) hx hb hK hP hD hS (13) 12 (j := (d * 5) + 4) rfl rfl (by omega) (Nat.le_of_ble_eq_true rfl) rfl dX4_deliver_517 (fun H locs hP hD hS => ?_)
                              refine lv_aload_n hx hb dX4_deliver_518 rfl (lv_at hl 8 rfl) ?_
                              refine lv_dup hx hb dX4_deliver_519 rfl ?_
                              refine va_get (D := (dC, dI)) (ci := 4) (v := .int (nI d)) (C := RX4) (T := TX4) (N := 16) hx hb hts inX4_deliver_X4 hown hK hP (0) rfl rfl 15 (by decide) (hts _ lkX4_deliver_78) (fun _ h9 => h9) rfl dX4_deliver_520 ?_
                              refine lv_iconst (v := nI 1) hx hb dX4_deliver_523 (by decide) ?_
                              refine lv_iadd hx hb dX4_deliver_524 ?_
                              refine qtop (y := nI (d + 1)) (nI_add _ _) ?_
                              refine q_put (D := (dC, dI)) (ci := 4) (v := .int (nI (d + 1))) (ty := .int) (C := RX4) (T := TX4) (N := 16) (ws' := (wMc o k (fun j => R j 0) (fun j => R j 1) (fun j => R j 2) (upd (fun j => T j 0) c (nI 0)) (fun j => T j 1) (fun j => T j 2) (fun j => T j 3) (upd an c (nI (a ||| 2 ^ r))) (fun j => T j 5) (fun j => T j 6) (fun j => T j 7) (drp f n i) (upd (upd (upd (upd (upd g (d * 5) (nI c)) ((d * 5) + 1) (f ((i * 6) + 3))) ((d * 5) + 2) (nI 0)) ((d * 5) + 3) (T c 6)) ((d * 5) + 4) (T c 5)) (cnF R 5) (n - 1) (d + 1))) hx hb hts inX4_deliver_X4 tyX4 tyX4_ok nmX4 hown hK hP hD hS (0) rfl rfl 15 (by decide) (hts _ lkX4_deliver_78) (fun _ h9 => h9) rfl (by decide +kernel) rfl rfl (Nat.le_of_ble_eq_true rfl) rfl dX4_deliver_525 (fun H locs hP hD hS => ?_)
                              refine lv_aload_n hx hb dX4_deliver_528 rfl (lv_at hl 8 rfl) ?_
                              refine va_get (D := (dC, dI)) (ci := 4) (v := .int (nI (n - 1))) (C := RX4) (T := TX4) (N := 16) hx hb hts inX4_deliver_X4 hown hK hP (0) rfl rfl 13 (by decide) (hts _ lkX4_deliver_50) (fun _ h9 => h9) rfl dX4_deliver_529 ?_
                              refine lv_iload hx hb dX4_deliver_532 (lv_at hl 1 rfl) ?_
                              refine lv_isub hx hb dX4_deliver_534 ?_
                              exact retJ hx hb hr hlk dX4_deliver_535 hS (upd an c (nI (a ||| 2 ^ r))) (by rw [e_d]; show va_P _ _ (wM o k R (idlC T c) (upd an c (nI (a ||| 2 ^ r))) (n - 1) (drp f n i) (d + 1) (fin5 g d (nI c) (T c 1) (if T c 2 = 0 then nI 0 else nI 1) (T c 6) (T c 5)) (cnF R 5)) _; rw [if_pos c_479_3, e_T1, c_205_3]; exact va_Pe (wM_of (fun _ => rfl) (fun _ => rfl) (fun _ => rfl) (fun q => by simp [upd, idlC, up2]) (fun q => by simp [upd, idlC, up2]) (fun q => by simp [upd, idlC, up2]) (fun q => by simp [upd, idlC, up2]) (fun q => by simp [upd, idlC, up2]) (fun q => by simp [upd, idlC, up2]) (fun q => by simp [upd, idlC, up2])) hP) (fi_u hAn e_d n_T) (by rw [dl_v (σ := (R, C, n, f, d, g)) lt_i (show n < 2 ^ 31 by omega) e_d]; rfl)
                            · refine lv_iconst (v := nI 1) hx hb dX4_deliver_482 (by decide) ?_
                              refine lv_goto (tgt := 487) hx hb dX4_deliver_483 (by decide) ?_
                              refine q_iast (ws' := (wMc o k (fun j => R j 0) (fun j => R j 1) (fun j => R j 2) (upd (fun j => T j 0) c (nI 0)) (fun j => T j 1) (fun j => T j 2) (fun j => T j 3) (upd an c (nI (a ||| 2 ^ r))) (fun j => T j 5) (fun j => T j 6) (fun j => T j 7) (drp f n i) (upd (upd (upd g (d * 5) (nI c)) ((d * 5) + 1) (f ((i * 6) + 3))) ((d * 5) + 2) (nI 1)) (cnF R 5) (n - 1) d)) hx hb hK hP hD hS (13) 12 (j := (d * 5) + 2) rfl rfl (by omega) (Nat.le_of_ble_eq_true rfl) rfl dX4_deliver_487 (fun H locs hP hD hS => ?_)
                              refine lv_aload_n hx hb dX4_deliver_488 rfl (lv_at hl 8 rfl) ?_
                              refine va_get (D := (dC, dI)) (ci := 4) (v := .ref (o 13)) (C := RX4) (T := TX4) (N := 16) hx hb hts inX4_deliver_X4 hown hK hP (0) rfl rfl 14 (by decide) (hts _ lkX4_deliver_47) (fun _ h9 => h9) rfl dX4_deliver_489 ?_
                              refine lv_iload hx hb dX4_deliver_492 (lv_at hl 0 rfl) ?_
                              refine lv_iconst (v := nI 3) hx hb dX4_deliver_494 (by decide) ?_
                              refine lv_iadd hx hb dX4_deliver_495 ?_
                              refine qtop (y := nI ((d * 5) + 3)) (nI_add _ _) ?_
                              refine lv_aload_n hx hb dX4_deliver_496 rfl (lv_at hl 8 rfl) ?_
                              refine va_get (D := (dC, dI)) (ci := 4) (v := .ref (o 10)) (C := RX4) (T := TX4) (N := 16) hx hb hts inX4_deliver_X4 hown hK hP (0) rfl rfl 10 (by decide) (hts _ lkX4_deliver_38) (fun _ h9 => h9) rfl dX4_deliver_497 ?_
                              refine lv_iload_n hx hb dX4_deliver_500 rfl (lv_at hl 6 rfl) ?_
                              refine q_iald hx hb hK hP (10) 9 (j := c) rfl rfl lt_c (Nat.le_of_ble_eq_true rfl) dX4_deliver_501 ?_
                              refine q_iast (ws' := (wMc o k (fun j => R j 0) (fun j => R j 1) (fun j => R j 2) (upd (fun j => T j 0) c (nI 0)) (fun j => T j 1) (fun j => T j 2) (fun j => T j 3) (upd an c (nI (a ||| 2 ^ r))) (fun j => T j 5) (fun j => T j 6) (fun j => T j 7) (drp f n i) (upd (upd (upd (upd g (d * 5) (nI c)) ((d * 5) + 1) (f ((i * 6) + 3))) ((d * 5) + 2) (nI 1)) ((d * 5) + 3) (T c 6)) (cnF R 5) (n - 1) d)) hx hb hK hP hD hS (13) 12 (j := (d * 5) + 3) rfl rfl (by omega) (Nat.le_of_ble_eq_true rfl) rfl dX4_deliver_502 (fun H locs hP hD hS => ?_)
                              refine lv_aload_n hx hb dX4_deliver_503 rfl (lv_at hl 8 rfl) ?_
                              refine va_get (D := (dC, dI)) (ci := 4) (v := .ref (o 13)) (C := RX4) (T := TX4) (N := 16) hx hb hts inX4_deliver_X4 hown hK hP (0) rfl rfl 14 (by decide) (hts _ lkX4_deliver_47) (fun _ h9 => h9) rfl dX4_deliver_504 ?_
                              refine lv_iload hx hb dX4_deliver_507 (lv_at hl 0 rfl) ?_
                              refine lv_iconst (v := nI 4) hx hb dX4_deliver_509 (by decide) ?_
                              refine lv_iadd hx hb dX4_deliver_510 ?_
                              refine qtop (y := nI ((d * 5) + 4)) (nI_add _ _) ?_
                              refine lv_aload_n hx hb dX4_deliver_511 rfl (lv_at hl 8 rfl) ?_
                              refine va_get (D := (dC, dI)) (ci := 4) (v := .ref (o 9)) (C := RX4) (T := TX4) (N := 16) hx hb hts inX4_deliver_X4 hown hK hP (0) rfl rfl 9 (by decide) (hts _ lkX4_deliver_35) (fun _ h9 => h9) rfl dX4_deliver_512 ?_
                              refine lv_iload_n hx hb dX4_deliver_515 rfl (lv_at hl 6 rfl) ?_
                              refine q_iald hx hb hK hP (9) 8 (j := c) rfl rfl lt_c (Nat.le_of_ble_eq_true rfl) dX4_deliver_516 ?_
                              refine q_iast (ws' := (wMc o k (fun j => R j 0) (fun j => R j 1) (fun j => R j 2) (upd (fun j => T j 0) c (nI 0)) (fun j => T j 1) (fun j => T j 2) (fun j => T j 3) (upd an c (nI (a ||| 2 ^ r))) (fun j => T j 5) (fun j => T j 6) (fun j => T j 7) (drp f n i) (upd (upd (upd (upd (upd g (d * 5) (nI c)) ((d * 5) + 1) (f ((i * 6) + 3))) ((d * 5) + 2) (nI 1)) ((d * 5) + 3) (T c 6)) ((d * 5) + 4) (T c 5)) (cnF R 5) (n - 1) d)) hx hb hK hP hD hS (13) 12 (j := (d * 5) + 4) rfl rfl (by omega) (Nat.le_of_ble_eq_true rfl) rfl dX4_deliver_517 (fun H locs hP hD hS => ?_)
                              refine lv_aload_n hx hb dX4_deliver_518 rfl (lv_at hl 8 rfl) ?_
                              refine lv_dup hx hb dX4_deliver_519 rfl ?_
                              refine va_get (D := (dC, dI)) (ci := 4) (v := .int (nI d)) (C := RX4) (T := TX4) (N := 16) hx hb hts inX4_deliver_X4 hown hK hP (0) rfl rfl 15 (by decide) (hts _ lkX4_deliver_78) (fun _ h9 => h9) rfl dX4_deliver_520 ?_
                              refine lv_iconst (v := nI 1) hx hb dX4_deliver_523 (by decide) ?_
                              refine lv_iadd hx hb dX4_deliver_524 ?_
                              refine qtop (y := nI (d + 1)) (nI_add _ _) ?_
                              refine q_put (D := (dC, dI)) (ci := 4) (v := .int (nI (d + 1))) (ty := .int) (C := RX4) (T := TX4) (N := 16) (ws' := (wMc o k (fun j => R j 0) (fun j => R j 1) (fun j => R j 2) (upd (fun j => T j 0) c (nI 0)) (fun j => T j 1) (fun j => T j 2) (fun j => T j 3) (upd an c (nI (a ||| 2 ^ r))) (fun j => T j 5) (fun j => T j 6) (fun j => T j 7) (drp f n i) (upd (upd (upd (upd (upd g (d * 5) (nI c)) ((d * 5) + 1) (f ((i * 6) + 3))) ((d * 5) + 2) (nI 1)) ((d * 5) + 3) (T c 6)) ((d * 5) + 4) (T c 5)) (cnF R 5) (n - 1) (d + 1))) hx hb hts inX4_deliver_X4 tyX4 tyX4_ok nmX4 hown hK hP hD hS (0) rfl rfl 15 (by decide) (hts _ lkX4_deliver_78) (fun _ h9 => h9) rfl (by decide +kernel) rfl rfl (Nat.le_of_ble_eq_true rfl) rfl dX4_deliver_525 (fun H locs hP hD hS => ?_)
                              refine lv_aload_n hx hb dX4_deliver_528 rfl (lv_at hl 8 rfl) ?_
                              refine va_get (D := (dC, dI)) (ci := 4) (v := .int (nI (n - 1))) (C := RX4) (T := TX4) (N := 16) hx hb hts inX4_deliver_X4 hown hK hP (0) rfl rfl 13 (by decide) (hts _ lkX4_deliver_50) (fun _ h9 => h9) rfl dX4_deliver_529 ?_
                              refine lv_iload hx hb dX4_deliver_532 (lv_at hl 1 rfl) ?_
                              refine lv_isub hx hb dX4_deliver_534 ?_
                              exact retJ hx hb hr hlk dX4_deliver_535 hS (upd an c (nI (a ||| 2 ^ r))) (by rw [e_d]; show va_P _ _ (wM o k R (idlC T c) (upd an c (nI (a ||| 2 ^ r))) (n - 1) (drp f n i) (d + 1) (fin5 g d (nI c) (T c 1) (if T c 2 = 0 then nI 0 else nI 1) (T c 6) (T c 5)) (cnF R 5)) _; rw [if_neg c_479_3, e_T1, c_205_3]; exact va_Pe (wM_of (fun _ => rfl) (fun _ => rfl) (fun _ => rfl) (fun q => by simp [upd, idlC, up2]) (fun q => by simp [upd, idlC, up2]) (fun q => by simp [upd, idlC, up2]) (fun q => by simp [upd, idlC, up2]) (fun q => by simp [upd, idlC, up2]) (fun q => by simp [upd, idlC, up2]) (fun q => by simp [upd, idlC, up2])) hP) (fi_u hAn e_d n_T) (by rw [dl_v (σ := (R, C, n, f, d, g)) lt_i (show n < 2 ^ 31 by omega) e_d]; rfl)
                          · exact absurd c_310_3 h_1
                        · refine lv_iconst (v := nI 0) hx hb dX4_deliver_306 (by decide) ?_
                          rw [if_neg (fun w => c_303_3 (nI_le w (by have := bits_le (a ||| 2 ^ r); omega)))] at e_d
                          exact retJ hx hb hr hlk dX4_deliver_307 hS (upd an c (nI (a ||| 2 ^ r))) (by rw [e_d]; exact hP) (nq_u hAn e_d e_T4 n_T) (by rw [dl_v (σ := (R, C, n, f, d, g)) lt_i (show n < 2 ^ 31 by omega) e_d]; exact (sub_0 (n - 1)).symm)
                      · exact absurd c_263_3 h_1
                    · refine lv_iconst (v := nI 0) hx hb dX4_deliver_242 (by decide) ?_
                      have e_d : dlS (R, C, n, f, d, g) (nI i) = (R, C, n - 1, drp f n i, d, g) := e_d.trans (std_no (fun z => absurd z.2.2 (by show ¬ C c 4 &&& (nI 1 <<< (nI r &&& 31)) = 0; rw [e_a]; exact (shr_bit a lt_a r lt_r).mp c_239_3)))
                      exact retJ hx hb hr hlk dX4_deliver_243 hS (an) (by rw [e_d]; exact hP) (by rw [e_d]; exact hAn) (by rw [dl_v (σ := (R, C, n, f, d, g)) lt_i (show n < 2 ^ 31 by omega) e_d]; exact (sub_0 (n - 1)).symm)
                · exact absurd c_216_3 h_1
            · exact absurd c_107_3 h_2
  · have c_11 := it_no c_11
    have c_11 := mt (wi_n (x := p0) n (by omega)).mpr c_11
    refine lv_iconst (v := (-1)) hx hb dX4_deliver_14 (by decide) ?_
    exact retJ hx hb hr hlk dX4_deliver_15 hS (an) (by rw [dlS, if_neg c_11]; exact hP) (by rw [dlS, if_neg c_11]; exact hAn) (by rw [dlX, if_neg c_11])
