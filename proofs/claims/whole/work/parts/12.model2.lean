/-! the reference: its public methods but deliver -/
def bgA (σ : St) (an : Nat → Int32) (p0 : Int32) : Nat → Int32 := if okI p0 3 ∧ σ.2.1 p0.toNatClampNeg 0 = 0 ∧ ¬ 60 < σ.2.2.1 then upd an p0.toNatClampNeg (nI 0) else an
theorem va_De {A : Nat → Prop} {w w' : va_W} (e : w = w') (h : va_D A w) : va_D A w' := e ▸ h
theorem rep_eq {f : Nat → Int32} {n i : Nat} : snd6 f n (f (i * 6)) (f (i * 6 + 1)) (f (i * 6 + 2)) (f (i * 6 + 3)) (f (i * 6 + 4)) (f (i * 6 + 5)) = va_cpy f f (i * 6) (n * 6) 6 := by
  funext q
  by_cases h : n * 6 ≤ q ∧ q < n * 6 + 6
  · rw [pk_cpy_in h.1 h.2]
    rcases (show q = n * 6 + 0 ∨ q = n * 6 + 1 ∨ q = n * 6 + 2 ∨ q = n * 6 + 3 ∨ q = n * 6 + 4 ∨ q = n * 6 + 5 by omega) with e | e | e | e | e | e <;> subst e <;> simp [snd6, upd]
  · rw [pk_cpy_out (by omega)]
    unfold snd6
    rw [pk_un (by omega), pk_un (by omega), pk_un (by omega), pk_un (by omega), pk_un (by omega), pk_un (by omega)]
theorem cnF_up {R : Nat → Nat → Int32} {j : Nat} (hj : j < 5) (h : R j 2 = 0) : cnF (up2 R j 2 (nI 1)) 5 = cnF R 5 + 1 := by
  rcases lt5 hj with rfl | rfl | rfl | rfl | rfl <;> simp only [cnF, up2] <;> simp [h, show ¬ (nI 1 = 0) by decide +kernel] <;> omega
theorem sub_1 (m : Nat) : nI (m + 1) - nI m = nI 1 := by rw [pk_sub (by omega), show m + 1 - m = 1 by omega]
theorem sub_0 (m : Nat) : nI m - nI m = nI 0 := by rw [pk_sub (Nat.le_refl m), Nat.sub_self]
theorem lkX4_begin_20 : Cond.fieldLink RX4 20 "QuorumRegisterModel" "phase" "[I" ∈ wsX4_begin := by decide +kernel
theorem inX4_begin_X4 : ∀ w ∈ wsX40, w ∈ wsX4_begin := by decide +kernel
theorem lkX4_begin_50 : Cond.fieldLink RX4 50 "QuorumRegisterModel" "count" "I" ∈ wsX4_begin := by decide +kernel
theorem lkX4_begin_23 : Cond.fieldLink RX4 23 "QuorumRegisterModel" "serial" "[I" ∈ wsX4_begin := by decide +kernel
theorem lkX4_begin_26 : Cond.fieldLink RX4 26 "QuorumRegisterModel" "writes" "[Z" ∈ wsX4_begin := by decide +kernel
theorem lkX4_begin_29 : Cond.fieldLink RX4 29 "QuorumRegisterModel" "wanted" "[I" ∈ wsX4_begin := by decide +kernel
theorem lkX4_begin_32 : Cond.fieldLink RX4 32 "QuorumRegisterModel" "answers" "[I" ∈ wsX4_begin := by decide +kernel
theorem lkX4_begin_35 : Cond.fieldLink RX4 35 "QuorumRegisterModel" "seenTag" "[I" ∈ wsX4_begin := by decide +kernel
theorem lkX4_begin_38 : Cond.fieldLink RX4 38 "QuorumRegisterModel" "seenValue" "[I" ∈ wsX4_begin := by decide +kernel
set_option maxHeartbeats 4000000 in
set_option maxRecDepth 100000 in
/-- begin(c, writing, v) -/
theorem k_X4_begin (l : Launch) (dC : Nat → ClassId) (dI : Nat → Nat → Nat) (o : Nat → Nat) (k : Nat → ClassId) (R C : Nat → Nat → Int32) (an : Nat → Int32) (n : Nat) (f : Nat → Int32) (d : Nat) (g : Nat → Int32) (hn : n ≤ 77) (p0 zw zv : Int32) (hw : zw = 0 ∨ zw = 1) : MetI l yX4_begin wsX4_begin ({ frames := 2, cells := 0, slots := 0, locals := 52 } : Room) (dC, dI) vwCl (wMs o k (R, C, n, f, d, g) an) (tyM k) [.ref (o 0), .int p0, .int zw, .int zv] (bgX C n p0) (wMs o k (bgS (R, C, n, f, d, g) p0 zw zv) (bgA (R, C, n, f, d, g) an p0)) := by
  refine MetI.of (cc := cX4_begin) (maxL := 4) (ret := (some .int)) (by decide) rfl (Nat.le_of_ble_eq_true rfl) rfl ?_
  intro p e s m below meth cd ls A hx hb hr hlk hml hown hts hK hP hD hS hA hl
  have hl : lv_has ls 4 [(0, .ref (o 0)), (1, .int p0), (2, .int zw), (3, .int zv)] := hl
  refine lv_iload_n hx hb dX4_begin_0 rfl (lv_at hl 1 rfl) ?_
  refine lv_iconst (v := nI 0) hx hb dX4_begin_1 (by decide) ?_
  refine lv_iconst (v := nI 2) hx hb dX4_begin_2 (by decide) ?_
  refine goS (va_runS (rm := ({ frames := 0, cells := 0, slots := 0, locals := 0 } : Room)) (As := [.int p0, .int (nI 0), .int (nI 2)]) (rest := []) ⟨hx, hb, hml, hown, hts⟩ (MetS.at (k_X4_within l dC dI p0 (nI 0) (nI 2))) (va_cwS 3 hts gX4_begin_X4_within rfl rfl rfl (by decide +kernel) ⟨Nat.le_of_ble_eq_true rfl, Nat.le_of_ble_eq_true rfl⟩) (preSS (hK.sub [] rfl) va_P0) rfl rfl hl.1 rfl (lv_room (Nat.le_of_ble_eq_true rfl)) dX4_begin_3 ⟨Nat.le_of_ble_eq_true rfl, Nat.le_of_ble_eq_true rfl⟩) ?_
  refine lv_if_ne (tgt := 11) hx hb dX4_begin_6 (by decide) (fun c_6 => ?_) (fun c_6 => ?_)
  · have c_6 := it_yes c_6
    have c_6 := (wi_s (x := p0) 2 (Nat.le_of_ble_eq_true rfl)).mp c_6
    obtain ⟨j, lt_j, rfl⟩ := okI_of c_6 (by omega)
    have e_j : (nI j).toNatClampNeg = j := nI_clamp (by omega)
    refine lv_aload_n hx hb dX4_begin_11 rfl (lv_at hl 0 rfl) ?_
    refine va_get (D := (dC, dI)) (ci := 4) (v := .ref (o 4)) (C := RX4) (T := TX4) (N := 16) hx hb hts inX4_begin_X4 hown hK hP (0) rfl rfl 4 (by decide) (hts _ lkX4_begin_20) (fun _ h9 => h9) rfl dX4_begin_12 ?_
    refine lv_iload_n hx hb dX4_begin_15 rfl (lv_at hl 1 rfl) ?_
    refine q_iald hx hb hK hP (4) 3 (j := j) rfl rfl lt_j (Nat.le_of_ble_eq_true rfl) dX4_begin_16 ?_
    refine lv_if_eq (tgt := 23) hx hb dX4_begin_17 (by decide) (fun c_17 => ?_) (fun c_17 => ?_)
    · refine lv_aload_n hx hb dX4_begin_23 rfl (lv_at hl 0 rfl) ?_
      refine va_get (D := (dC, dI)) (ci := 4) (v := .int (nI n)) (C := RX4) (T := TX4) (N := 16) hx hb hts inX4_begin_X4 hown hK hP (0) rfl rfl 13 (by decide) (hts _ lkX4_begin_50) (fun _ h9 => h9) rfl dX4_begin_24 ?_
      refine lv_bipush (v := nI 60) hx hb dX4_begin_27 (by decide) ?_
      refine lv_icmp_le (tgt := 35) hx hb dX4_begin_29 (by decide) (fun c_29 => ?_) (fun c_29 => ?_)
      · refine lv_aload_n hx hb dX4_begin_35 rfl (lv_at hl 0 rfl) ?_
        refine va_get (D := (dC, dI)) (ci := 4) (v := .ref (o 5)) (C := RX4) (T := TX4) (N := 16) hx hb hts inX4_begin_X4 hown hK hP (0) rfl rfl 5 (by decide) (hts _ lkX4_begin_23) (fun _ h9 => h9) rfl dX4_begin_36 ?_
        refine lv_iload_n hx hb dX4_begin_39 rfl (lv_at hl 1 rfl) ?_
        refine lv_dup2_11 hx hb dX4_begin_40 rfl rfl ?_
        refine q_iald hx hb hK hP (5) 4 (j := j) rfl rfl lt_j (Nat.le_of_ble_eq_true rfl) dX4_begin_41 ?_
        refine lv_iconst (v := nI 1) hx hb dX4_begin_42 (by decide) ?_
        refine lv_iadd hx hb dX4_begin_43 ?_
        refine q_iast (ws' := (wMc o k (fun j => R j 0) (fun j => R j 1) (fun j => R j 2) (fun j => C j 0) (upd (fun j => C j 1) j ((C j 1) + (nI 1))) (fun j => C j 2) (fun j => C j 3) an (fun j => C j 5) (fun j => C j 6) (fun j => C j 7) f g (cnF R 5) n d)) hx hb hK hP hD hS (5) 4 (j := j) rfl rfl lt_j (Nat.le_of_ble_eq_true rfl) rfl dX4_begin_44 (fun H locs hP hD hS => ?_)
        refine lv_aload_n hx hb dX4_begin_45 rfl (lv_at hl 0 rfl) ?_
        refine va_get (D := (dC, dI)) (ci := 4) (v := .ref (o 4)) (C := RX4) (T := TX4) (N := 16) hx hb hts inX4_begin_X4 hown hK hP (0) rfl rfl 4 (by decide) (hts _ lkX4_begin_20) (fun _ h9 => h9) rfl dX4_begin_46 ?_
        refine lv_iload_n hx hb dX4_begin_49 rfl (lv_at hl 1 rfl) ?_
        refine lv_iconst (v := nI 1) hx hb dX4_begin_50 (by decide) ?_
        refine q_iast (ws' := (wMc o k (fun j => R j 0) (fun j => R j 1) (fun j => R j 2) (upd (fun j => C j 0) j (nI 1)) (upd (fun j => C j 1) j ((C j 1) + (nI 1))) (fun j => C j 2) (fun j => C j 3) an (fun j => C j 5) (fun j => C j 6) (fun j => C j 7) f g (cnF R 5) n d)) hx hb hK hP hD hS (4) 3 (j := j) rfl rfl lt_j (Nat.le_of_ble_eq_true rfl) rfl dX4_begin_51 (fun H locs hP hD hS => ?_)
        refine lv_aload_n hx hb dX4_begin_52 rfl (lv_at hl 0 rfl) ?_
        refine va_get (D := (dC, dI)) (ci := 4) (v := .ref (o 6)) (C := RX4) (T := TX4) (N := 16) hx hb hts inX4_begin_X4 hown hK hP (0) rfl rfl 6 (by decide) (hts _ lkX4_begin_26) (fun _ h9 => h9) rfl dX4_begin_53 ?_
        refine lv_iload_n hx hb dX4_begin_56 rfl (lv_at hl 1 rfl) ?_
        refine lv_iload_n hx hb dX4_begin_57 rfl (lv_at hl 2 rfl) ?_
        refine q_zast (ws' := (wMc o k (fun j => R j 0) (fun j => R j 1) (fun j => R j 2) (upd (fun j => C j 0) j (nI 1)) (upd (fun j => C j 1) j ((C j 1) + (nI 1))) (upd (fun j => C j 2) j zw) (fun j => C j 3) an (fun j => C j 5) (fun j => C j 6) (fun j => C j 7) f g (cnF R 5) n d)) hx hb hK hP hD hS (6) 5 (j := j) rfl rfl lt_j (Nat.le_of_ble_eq_true rfl) (bn hw) rfl dX4_begin_58 (fun H locs hP hD hS => ?_)
        refine lv_aload_n hx hb dX4_begin_59 rfl (lv_at hl 0 rfl) ?_
        refine va_get (D := (dC, dI)) (ci := 4) (v := .ref (o 7)) (C := RX4) (T := TX4) (N := 16) hx hb hts inX4_begin_X4 hown hK hP (0) rfl rfl 7 (by decide) (hts _ lkX4_begin_29) (fun _ h9 => h9) rfl dX4_begin_60 ?_
        refine lv_iload_n hx hb dX4_begin_63 rfl (lv_at hl 1 rfl) ?_
        refine lv_iload_n hx hb dX4_begin_64 rfl (lv_at hl 3 rfl) ?_
        refine q_iast (ws' := (wMc o k (fun j => R j 0) (fun j => R j 1) (fun j => R j 2) (upd (fun j => C j 0) j (nI 1)) (upd (fun j => C j 1) j ((C j 1) + (nI 1))) (upd (fun j => C j 2) j zw) (upd (fun j => C j 3) j zv) an (fun j => C j 5) (fun j => C j 6) (fun j => C j 7) f g (cnF R 5) n d)) hx hb hK hP hD hS (7) 6 (j := j) rfl rfl lt_j (Nat.le_of_ble_eq_true rfl) rfl dX4_begin_65 (fun H locs hP hD hS => ?_)
        refine lv_aload_n hx hb dX4_begin_66 rfl (lv_at hl 0 rfl) ?_
        refine va_get (D := (dC, dI)) (ci := 4) (v := .ref (o 8)) (C := RX4) (T := TX4) (N := 16) hx hb hts inX4_begin_X4 hown hK hP (0) rfl rfl 8 (by decide) (hts _ lkX4_begin_32) (fun _ h9 => h9) rfl dX4_begin_67 ?_
        refine lv_iload_n hx hb dX4_begin_70 rfl (lv_at hl 1 rfl) ?_
        refine lv_iconst (v := nI 0) hx hb dX4_begin_71 (by decide) ?_
        refine q_iast (ws' := (wMc o k (fun j => R j 0) (fun j => R j 1) (fun j => R j 2) (upd (fun j => C j 0) j (nI 1)) (upd (fun j => C j 1) j ((C j 1) + (nI 1))) (upd (fun j => C j 2) j zw) (upd (fun j => C j 3) j zv) (upd an j (nI 0)) (fun j => C j 5) (fun j => C j 6) (fun j => C j 7) f g (cnF R 5) n d)) hx hb hK hP hD hS (8) 7 (j := j) rfl rfl lt_j (Nat.le_of_ble_eq_true rfl) rfl dX4_begin_72 (fun H locs hP hD hS => ?_)
        refine lv_aload_n hx hb dX4_begin_73 rfl (lv_at hl 0 rfl) ?_
        refine va_get (D := (dC, dI)) (ci := 4) (v := .ref (o 9)) (C := RX4) (T := TX4) (N := 16) hx hb hts inX4_begin_X4 hown hK hP (0) rfl rfl 9 (by decide) (hts _ lkX4_begin_35) (fun _ h9 => h9) rfl dX4_begin_74 ?_
        refine lv_iload_n hx hb dX4_begin_77 rfl (lv_at hl 1 rfl) ?_
        refine lv_iconst (v := nI 0) hx hb dX4_begin_78 (by decide) ?_
        refine q_iast (ws' := (wMc o k (fun j => R j 0) (fun j => R j 1) (fun j => R j 2) (upd (fun j => C j 0) j (nI 1)) (upd (fun j => C j 1) j ((C j 1) + (nI 1))) (upd (fun j => C j 2) j zw) (upd (fun j => C j 3) j zv) (upd an j (nI 0)) (upd (fun j => C j 5) j (nI 0)) (fun j => C j 6) (fun j => C j 7) f g (cnF R 5) n d)) hx hb hK hP hD hS (9) 8 (j := j) rfl rfl lt_j (Nat.le_of_ble_eq_true rfl) rfl dX4_begin_79 (fun H locs hP hD hS => ?_)
        refine lv_aload_n hx hb dX4_begin_80 rfl (lv_at hl 0 rfl) ?_
        refine va_get (D := (dC, dI)) (ci := 4) (v := .ref (o 10)) (C := RX4) (T := TX4) (N := 16) hx hb hts inX4_begin_X4 hown hK hP (0) rfl rfl 10 (by decide) (hts _ lkX4_begin_38) (fun _ h9 => h9) rfl dX4_begin_81 ?_
        refine lv_iload_n hx hb dX4_begin_84 rfl (lv_at hl 1 rfl) ?_
        refine lv_iconst (v := nI 0) hx hb dX4_begin_85 (by decide) ?_
        refine q_iast (ws' := (wMc o k (fun j => R j 0) (fun j => R j 1) (fun j => R j 2) (upd (fun j => C j 0) j (nI 1)) (upd (fun j => C j 1) j ((C j 1) + (nI 1))) (upd (fun j => C j 2) j zw) (upd (fun j => C j 3) j zv) (upd an j (nI 0)) (upd (fun j => C j 5) j (nI 0)) (upd (fun j => C j 6) j (nI 0)) (fun j => C j 7) f g (cnF R 5) n d)) hx hb hK hP hD hS (10) 9 (j := j) rfl rfl lt_j (Nat.le_of_ble_eq_true rfl) rfl dX4_begin_86 (fun H locs hP hD hS => ?_)
        refine lv_aload_n hx hb dX4_begin_87 rfl (lv_at hl 0 rfl) ?_
        refine lv_iconst (v := nI 0) hx hb dX4_begin_88 (by decide) ?_
        refine lv_iload_n hx hb dX4_begin_89 rfl (lv_at hl 1 rfl) ?_
        refine lv_iconst (v := nI 0) hx hb dX4_begin_90 (by decide) ?_
        refine lv_iconst (v := nI 0) hx hb dX4_begin_91 (by decide) ?_
        refine goV (ws := (wMc o k (fun j => R j 0) (fun j => R j 1) (fun j => R j 2) (upd (fun j => C j 0) j (nI 1)) (upd (fun j => C j 1) j ((C j 1) + (nI 1))) (upd (fun j => C j 2) j zw) (upd (fun j => C j 3) j zv) (upd an j (nI 0)) (upd (fun j => C j 5) j (nI 0)) (upd (fun j => C j 6) j (nI 0)) (fun j => C j 7) f g (cnF R 5) n d)) (ws' := (wMc o k (fun j => R j 0) (fun j => R j 1) (fun j => R j 2) (upd (fun j => C j 0) j (nI 1)) (upd (fun j => C j 1) j ((C j 1) + (nI 1))) (upd (fun j => C j 2) j zw) (upd (fun j => C j 3) j zv) (upd an j (nI 0)) (upd (fun j => C j 5) j (nI 0)) (upd (fun j => C j 6) j (nI 0)) (fun j => C j 7) (sndN (nI 0) (nI j) ((upd (fun j => C j 1) j ((C j 1) + (nI 1))) j) (nI 0) (nI 0) f n 5) g (cnF R 5) (n + 5) d)) (qFit_all rfl) hP hD hS hA (va_runV (rm := ({ frames := 1, cells := 0, slots := 0, locals := 27 } : Room)) (As := [.int (nI 0), .int (nI j), .int (nI 0), .int (nI 0)]) (rest := []) ⟨hx, hb, hml, hown, hts⟩ (MetV.at (k_X4_sendAll l dC dI o k (fun j => R j 0) (fun j => R j 1) (fun j => R j 2) (upd (fun j => C j 0) j (nI 1)) (upd (fun j => C j 1) j ((C j 1) + (nI 1))) (upd (fun j => C j 2) j zw) (upd (fun j => C j 3) j zv) (upd an j (nI 0)) (upd (fun j => C j 5) j (nI 0)) (upd (fun j => C j 6) j (nI 0)) (fun j => C j 7) f g (cnF R 5) n d (by omega) j lt_j (nI 0) (nI 0) (nI 0)) H.size) (cwV 4 hts gX4_begin_X4_sendAll rfl rfl rfl (by decide +kernel) ⟨Nat.le_of_ble_eq_true rfl, Nat.le_of_ble_eq_true rfl⟩) (preWV hK hP hD (va_recv hK hP (ci := 4) (q0 := 0) rfl rfl)) rfl rfl hl.1 rfl (lv_room (Nat.le_of_ble_eq_true rfl)) dX4_begin_92 ⟨Nat.le_of_ble_eq_true rfl, Nat.le_of_ble_eq_true rfl⟩) (fun H locs hP hD hS => ?_)
        refine lv_aload_n hx hb dX4_begin_95 rfl (lv_at hl 0 rfl) ?_
        refine va_get (D := (dC, dI)) (ci := 4) (v := .ref (o 5)) (C := RX4) (T := TX4) (N := 16) hx hb hts inX4_begin_X4 hown hK hP (0) rfl rfl 5 (by decide) (hts _ lkX4_begin_23) (fun _ h9 => h9) rfl dX4_begin_96 ?_
        refine lv_iload_n hx hb dX4_begin_99 rfl (lv_at hl 1 rfl) ?_
        refine q_iald hx hb hK hP (5) 4 (j := j) rfl rfl lt_j (Nat.le_of_ble_eq_true rfl) dX4_begin_100 ?_
        exact retI hx hb hr hlk dX4_begin_101 hS (by rw [bgS, if_pos ⟨c_6, by rw [e_j]; exact c_17, (fun q => absurd c_29 (nI_ge q (by omega)))⟩, bgA, if_pos ⟨c_6, by rw [e_j]; exact c_17, (fun q => absurd c_29 (nI_ge q (by omega)))⟩, e_j]; rw [pk_us] at hP; exact va_Pe (wM_of (fun _ => rfl) (fun _ => rfl) (fun _ => rfl) (fun q => by simp [upd, begC, up2]) (fun q => by simp [upd, begC, up2]) (fun q => by simp [upd, begC, up2]) (fun q => by simp [upd, begC, up2]) (fun q => by simp [upd, begC, up2]) (fun q => by simp [upd, begC, up2]) (fun q => by simp [upd, begC, up2])) hP) (by rw [bgX, if_pos c_6, e_j, if_pos c_17, if_neg (fun q => absurd c_29 (nI_ge q (by omega))), pk_us])
      · refine lv_bipush (v := (-3)) hx hb dX4_begin_32 (by decide) ?_
        exact retI hx hb hr hlk dX4_begin_34 hS (by rw [bgS, if_neg (fun q => q.2.2 ((Nat.lt_or_ge 60 n).elim id (fun q => absurd (nI_le q (by decide)) c_29))), bgA, if_neg (fun q => q.2.2 ((Nat.lt_or_ge 60 n).elim id (fun q => absurd (nI_le q (by decide)) c_29)))]; exact hP) (by rw [bgX, if_pos c_6, e_j, if_pos c_17, if_pos ((Nat.lt_or_ge 60 n).elim id (fun q => absurd (nI_le q (by decide)) c_29))])
    · refine lv_bipush (v := (-2)) hx hb dX4_begin_20 (by decide) ?_
      exact retI hx hb hr hlk dX4_begin_22 hS (by rw [bgS, if_neg (fun q => c_17 (by have := q.2.1; rw [e_j] at this; exact this)), bgA, if_neg (fun q => c_17 (by have := q.2.1; rw [e_j] at this; exact this))]; exact hP) (by rw [bgX, if_pos c_6, e_j, if_neg c_17])
  · have c_6 := it_no c_6
    have c_6 := mt (wi_s (x := p0) 2 (Nat.le_of_ble_eq_true rfl)).mpr c_6
    refine lv_iconst (v := (-1)) hx hb dX4_begin_9 (by decide) ?_
    exact retI hx hb hr hlk dX4_begin_10 hS (by rw [bgS, if_neg (fun q => c_6 q.1), bgA, if_neg (fun q => c_6 q.1)]; exact hP) (by rw [bgX, if_neg c_6])
set_option maxHeartbeats 4000000 in
set_option maxRecDepth 100000 in
/-- X4_write -/
theorem k_X4_write (l : Launch) (dC : Nat → ClassId) (dI : Nat → Nat → Nat) (o : Nat → Nat) (k : Nat → ClassId) (R C : Nat → Nat → Int32) (an : Nat → Int32) (n : Nat) (f : Nat → Int32) (d : Nat) (g : Nat → Int32) (hn : n ≤ 77) (p0 p1 : Int32) : MetI l yX4_write wsX4_write ({ frames := 3, cells := 0, slots := 0, locals := 75 } : Room) (dC, dI) vwCl (wMs o k (R, C, n, f, d, g) an) (tyM k) [.ref (o 0), .int p0, .int p1] (bgX C n p0) (wMs o k (bgS (R, C, n, f, d, g) p0 (nI 1) (p1)) (bgA (R, C, n, f, d, g) an p0)) := by
  refine MetI.of (cc := cX4_write) (maxL := 3) (ret := (some .int)) (by decide) rfl (Nat.le_of_ble_eq_true rfl) rfl ?_
  intro p e s m below meth cd ls A hx hb hr hlk hml hown hts hK hP hD hS hA hl
  have hl : lv_has ls 3 [(0, .ref (o 0)), (1, .int p0), (2, .int p1)] := hl
  refine lv_aload_n hx hb dX4_write_0 rfl (lv_at hl 0 rfl) ?_
  refine lv_iload_n hx hb dX4_write_1 rfl (lv_at hl 1 rfl) ?_
  refine lv_iconst (v := nI 1) hx hb dX4_write_2 (by decide) ?_
  refine lv_iload_n hx hb dX4_write_3 rfl (lv_at hl 2 rfl) ?_
  refine goI (ws := (wMs o k (R, C, n, f, d, g) an)) (ws' := (wMs o k (bgS (R, C, n, f, d, g) p0 (nI 1) p1) (bgA (R, C, n, f, d, g) an p0))) (qFit_all rfl) hP hD hS hA (va_runV (rm := ({ frames := 2, cells := 0, slots := 0, locals := 52 } : Room)) (As := [.int p0, .int (nI 1), .int p1]) (rest := []) ⟨hx, hb, hml, hown, hts⟩ (MetI.at (k_X4_begin l dC dI o k R C an n f d g hn p0 (nI 1) p1 (Or.inr rfl)) s.heap.size) (cwV 3 hts gX4_write_X4_begin rfl rfl rfl (by decide +kernel) ⟨Nat.le_of_ble_eq_true rfl, Nat.le_of_ble_eq_true rfl⟩) (preWV hK hP hD (va_recv hK hP (ci := 4) (q0 := 0) rfl rfl)) rfl rfl hl.1 rfl (lv_room (Nat.le_of_ble_eq_true rfl)) dX4_write_4 ⟨Nat.le_of_ble_eq_true rfl, Nat.le_of_ble_eq_true rfl⟩) (fun H locs hP hD hS => ?_)
  exact retI hx hb hr hlk dX4_write_7 hS (hP) (rfl)
set_option maxHeartbeats 4000000 in
set_option maxRecDepth 100000 in
/-- X4_read -/
theorem k_X4_read (l : Launch) (dC : Nat → ClassId) (dI : Nat → Nat → Nat) (o : Nat → Nat) (k : Nat → ClassId) (R C : Nat → Nat → Int32) (an : Nat → Int32) (n : Nat) (f : Nat → Int32) (d : Nat) (g : Nat → Int32) (hn : n ≤ 77) (p0 : Int32) : MetI l yX4_read wsX4_read ({ frames := 3, cells := 0, slots := 0, locals := 75 } : Room) (dC, dI) vwCl (wMs o k (R, C, n, f, d, g) an) (tyM k) [.ref (o 0), .int p0] (bgX C n p0) (wMs o k (bgS (R, C, n, f, d, g) p0 (nI 0) (nI 0)) (bgA (R, C, n, f, d, g) an p0)) := by
  refine MetI.of (cc := cX4_read) (maxL := 2) (ret := (some .int)) (by decide) rfl (Nat.le_of_ble_eq_true rfl) rfl ?_
  intro p e s m below meth cd ls A hx hb hr hlk hml hown hts hK hP hD hS hA hl
  have hl : lv_has ls 2 [(0, .ref (o 0)), (1, .int p0)] := hl
  refine lv_aload_n hx hb dX4_read_0 rfl (lv_at hl 0 rfl) ?_
  refine lv_iload_n hx hb dX4_read_1 rfl (lv_at hl 1 rfl) ?_
  refine lv_iconst (v := nI 0) hx hb dX4_read_2 (by decide) ?_
  refine lv_iconst (v := nI 0) hx hb dX4_read_3 (by decide) ?_
  refine goI (ws := (wMs o k (R, C, n, f, d, g) an)) (ws' := (wMs o k (bgS (R, C, n, f, d, g) p0 (nI 0) (nI 0)) (bgA (R, C, n, f, d, g) an p0))) (qFit_all rfl) hP hD hS hA (va_runV (rm := ({ frames := 2, cells := 0, slots := 0, locals := 52 } : Room)) (As := [.int p0, .int (nI 0), .int (nI 0)]) (rest := []) ⟨hx, hb, hml, hown, hts⟩ (MetI.at (k_X4_begin l dC dI o k R C an n f d g hn p0 (nI 0) (nI 0) (Or.inl rfl)) s.heap.size) (cwV 3 hts gX4_read_X4_begin rfl rfl rfl (by decide +kernel) ⟨Nat.le_of_ble_eq_true rfl, Nat.le_of_ble_eq_true rfl⟩) (preWV hK hP hD (va_recv hK hP (ci := 4) (q0 := 0) rfl rfl)) rfl rfl hl.1 rfl (lv_room (Nat.le_of_ble_eq_true rfl)) dX4_read_4 ⟨Nat.le_of_ble_eq_true rfl, Nat.le_of_ble_eq_true rfl⟩) (fun H locs hP hD hS => ?_)
  exact retI hx hb hr hlk dX4_read_7 hS (hP) (rfl)
theorem lkX4_leave_20 : Cond.fieldLink RX4 20 "QuorumRegisterModel" "phase" "[I" ∈ wsX4_leave := by decide +kernel
theorem inX4_leave_X4 : ∀ w ∈ wsX40, w ∈ wsX4_leave := by decide +kernel
set_option maxHeartbeats 4000000 in
set_option maxRecDepth 100000 in
/-- leave(c) -/
theorem k_X4_leave (l : Launch) (dC : Nat → ClassId) (dI : Nat → Nat → Nat) (o : Nat → Nat) (k : Nat → ClassId) (R C : Nat → Nat → Int32) (an : Nat → Int32) (n : Nat) (f : Nat → Int32) (d : Nat) (g : Nat → Int32) (p0 : Int32) : MetI l yX4_leave wsX4_leave ({ frames := 1, cells := 0, slots := 0, locals := 22 } : Room) (dC, dI) vwCl (wMs o k (R, C, n, f, d, g) an) (tyM k) [.ref (o 0), .int p0] (lvX C p0) (wMs o k (lvS (R, C, n, f, d, g) p0) an) := by
  refine MetI.of (cc := cX4_leave) (maxL := 2) (ret := (some .boolean)) (by decide) rfl (Nat.le_of_ble_eq_true rfl) rfl ?_
  intro p e s m below meth cd ls A hx hb hr hlk hml hown hts hK hP hD hS hA hl
  have hl : lv_has ls 2 [(0, .ref (o 0)), (1, .int p0)] := hl
  refine lv_iload_n hx hb dX4_leave_0 rfl (lv_at hl 1 rfl) ?_
  refine lv_iconst (v := nI 0) hx hb dX4_leave_1 (by decide) ?_
  refine lv_iconst (v := nI 2) hx hb dX4_leave_2 (by decide) ?_
  refine goS (va_runS (rm := ({ frames := 0, cells := 0, slots := 0, locals := 0 } : Room)) (As := [.int p0, .int (nI 0), .int (nI 2)]) (rest := []) ⟨hx, hb, hml, hown, hts⟩ (MetS.at (k_X4_within l dC dI p0 (nI 0) (nI 2))) (va_cwS 3 hts gX4_leave_X4_within rfl rfl rfl (by decide +kernel) ⟨Nat.le_of_ble_eq_true rfl, Nat.le_of_ble_eq_true rfl⟩) (preSS (hK.sub [] rfl) va_P0) rfl rfl hl.1 rfl (lv_room (Nat.le_of_ble_eq_true rfl)) dX4_leave_3 ⟨Nat.le_of_ble_eq_true rfl, Nat.le_of_ble_eq_true rfl⟩) ?_
  refine lv_if_eq (tgt := 18) hx hb dX4_leave_6 (by decide) (fun c_6 => ?_) (fun c_6 => ?_)
  · have c_6 := it_no c_6
    have c_6 := mt (wi_s (x := p0) 2 (Nat.le_of_ble_eq_true rfl)).mpr c_6
    refine lv_iconst (v := nI 0) hx hb dX4_leave_18 (by decide) ?_
    exact retIz hx hb hr hlk dX4_leave_19 rfl hS (by rw [lvS, if_neg (fun q => c_6 q.1)]; exact hP) (by rw [lvX, if_neg (fun q => c_6 q.1)]; rfl)
  · have c_6 := it_yes c_6
    have c_6 := (wi_s (x := p0) 2 (Nat.le_of_ble_eq_true rfl)).mp c_6
    obtain ⟨j, lt_j, rfl⟩ := okI_of c_6 (by omega)
    have e_j : (nI j).toNatClampNeg = j := nI_clamp (by omega)
    refine lv_aload_n hx hb dX4_leave_9 rfl (lv_at hl 0 rfl) ?_
    refine va_get (D := (dC, dI)) (ci := 4) (v := .ref (o 4)) (C := RX4) (T := TX4) (N := 16) hx hb hts inX4_leave_X4 hown hK hP (0) rfl rfl 4 (by decide) (hts _ lkX4_leave_20) (fun _ h9 => h9) rfl dX4_leave_10 ?_
    refine lv_iload_n hx hb dX4_leave_13 rfl (lv_at hl 1 rfl) ?_
    refine q_iald hx hb hK hP (4) 3 (j := j) rfl rfl lt_j (Nat.le_of_ble_eq_true rfl) dX4_leave_14 ?_
    refine lv_if_ne (tgt := 20) hx hb dX4_leave_15 (by decide) (fun c_15 => ?_) (fun c_15 => ?_)
    · refine lv_aload_n hx hb dX4_leave_20 rfl (lv_at hl 0 rfl) ?_
      refine va_get (D := (dC, dI)) (ci := 4) (v := .ref (o 4)) (C := RX4) (T := TX4) (N := 16) hx hb hts inX4_leave_X4 hown hK hP (0) rfl rfl 4 (by decide) (hts _ lkX4_leave_20) (fun _ h9 => h9) rfl dX4_leave_21 ?_
      refine lv_iload_n hx hb dX4_leave_24 rfl (lv_at hl 1 rfl) ?_
      refine lv_iconst (v := nI 0) hx hb dX4_leave_25 (by decide) ?_
      refine q_iast (ws' := (wMc o k (fun j => R j 0) (fun j => R j 1) (fun j => R j 2) (upd (fun j => C j 0) j (nI 0)) (fun j => C j 1) (fun j => C j 2) (fun j => C j 3) an (fun j => C j 5) (fun j => C j 6) (fun j => C j 7) f g (cnF R 5) n d)) hx hb hK hP hD hS (4) 3 (j := j) rfl rfl lt_j (Nat.le_of_ble_eq_true rfl) rfl dX4_leave_26 (fun H locs hP hD hS => ?_)
      refine lv_iconst (v := nI 1) hx hb dX4_leave_27 (by decide) ?_
      exact retIz hx hb hr hlk dX4_leave_28 rfl hS (by rw [lvS, if_pos ⟨c_6, by rw [e_j]; exact c_15⟩, e_j]; exact va_Pe (wM_of (fun _ => rfl) (fun _ => rfl) (fun _ => rfl) (fun q => by simp [upd, idlC, up2]) (fun q => by simp [upd, idlC, up2]) (fun q => by simp [upd, idlC, up2]) (fun q => by simp [upd, idlC, up2]) (fun q => by simp [upd, idlC, up2]) (fun q => by simp [upd, idlC, up2]) (fun q => by simp [upd, idlC, up2])) hP) (by rw [lvX, if_pos ⟨c_6, by rw [e_j]; exact c_15⟩]; rfl)
    · refine lv_iconst (v := nI 0) hx hb dX4_leave_18 (by decide) ?_
      exact retIz hx hb hr hlk dX4_leave_19 rfl hS (by rw [lvS, if_neg (fun q => q.2 (by rw [e_j]; exact c_15))]; exact hP) (by rw [lvX, if_neg (fun q => q.2 (by rw [e_j]; exact c_15))]; rfl)
theorem lkX4_lose_50 : Cond.fieldLink RX4 50 "QuorumRegisterModel" "count" "I" ∈ wsX4_lose := by decide +kernel
theorem inX4_lose_X4 : ∀ w ∈ wsX40, w ∈ wsX4_lose := by decide +kernel
set_option maxHeartbeats 4000000 in
set_option maxRecDepth 100000 in
/-- lose(i) -/
theorem k_X4_lose (l : Launch) (dC : Nat → ClassId) (dI : Nat → Nat → Nat) (o : Nat → Nat) (k : Nat → ClassId) (R C : Nat → Nat → Int32) (an : Nat → Int32) (n : Nat) (f : Nat → Int32) (d : Nat) (g : Nat → Int32) (hn : n ≤ 77) (p0 : Int32) : MetI l yX4_lose wsX4_lose ({ frames := 1, cells := 0, slots := 0, locals := 22 } : Room) (dC, dI) vwCl (wMs o k (R, C, n, f, d, g) an) (tyM k) [.ref (o 0), .int p0] (lsX (R, C, n, f, d, g) p0) (wMs o k (lsS (R, C, n, f, d, g) p0) an) := by
  refine MetI.of (cc := cX4_lose) (maxL := 2) (ret := (some .boolean)) (by decide) rfl (Nat.le_of_ble_eq_true rfl) rfl ?_
  intro p e s m below meth cd ls A hx hb hr hlk hml hown hts hK hP hD hS hA hl
  have hl : lv_has ls 2 [(0, .ref (o 0)), (1, .int p0)] := hl
  refine lv_iload_n hx hb dX4_lose_0 rfl (lv_at hl 1 rfl) ?_
  refine lv_iconst (v := nI 0) hx hb dX4_lose_1 (by decide) ?_
  refine lv_aload_n hx hb dX4_lose_2 rfl (lv_at hl 0 rfl) ?_
  refine va_get (D := (dC, dI)) (ci := 4) (v := .int (nI n)) (C := RX4) (T := TX4) (N := 16) hx hb hts inX4_lose_X4 hown hK hP (0) rfl rfl 13 (by decide) (hts _ lkX4_lose_50) (fun _ h9 => h9) rfl dX4_lose_3 ?_
  refine lv_iconst (v := nI 1) hx hb dX4_lose_6 (by decide) ?_
  refine lv_isub hx hb dX4_lose_7 ?_
  refine goS (va_runS (rm := ({ frames := 0, cells := 0, slots := 0, locals := 0 } : Room)) (As := [.int p0, .int (nI 0), .int ((nI n) - (nI 1))]) (rest := []) ⟨hx, hb, hml, hown, hts⟩ (MetS.at (k_X4_within l dC dI p0 (nI 0) ((nI n) - (nI 1)))) (va_cwS 3 hts gX4_lose_X4_within rfl rfl rfl (by decide +kernel) ⟨Nat.le_of_ble_eq_true rfl, Nat.le_of_ble_eq_true rfl⟩) (preSS (hK.sub [] rfl) va_P0) rfl rfl hl.1 rfl (lv_room (Nat.le_of_ble_eq_true rfl)) dX4_lose_8 ⟨Nat.le_of_ble_eq_true rfl, Nat.le_of_ble_eq_true rfl⟩) ?_
  refine lv_if_ne (tgt := 16) hx hb dX4_lose_11 (by decide) (fun c_11 => ?_) (fun c_11 => ?_)
  · have c_11 := it_yes c_11
    have c_11 := (wi_n (x := p0) n (by omega)).mp c_11
    obtain ⟨i, lt_i, rfl⟩ := okI_of c_11 (by omega)
    have e_i : (nI i).toNatClampNeg = i := nI_clamp (by omega)
    refine lv_aload_n hx hb dX4_lose_16 rfl (lv_at hl 0 rfl) ?_
    refine lv_iload_n hx hb dX4_lose_17 rfl (lv_at hl 1 rfl) ?_
    refine goV (ws := (wMs o k (R, C, n, f, d, g) an)) (ws' := (wMc o k (fun j => R j 0) (fun j => R j 1) (fun j => R j 2) (fun j => C j 0) (fun j => C j 1) (fun j => C j 2) (fun j => C j 3) an (fun j => C j 5) (fun j => C j 6) (fun j => C j 7) (drp f n i) g (cnF R 5) (n - 1) d)) (qFit_all rfl) hP hD hS hA (va_runV (rm := ({ frames := 0, cells := 0, slots := 0, locals := 0 } : Room)) (As := [.int (nI i)]) (rest := []) ⟨hx, hb, hml, hown, hts⟩ (MetV.at (k_X4_drop l dC dI o k (fun j => R j 0) (fun j => R j 1) (fun j => R j 2) (fun j => C j 0) (fun j => C j 1) (fun j => C j 2) (fun j => C j 3) an (fun j => C j 5) (fun j => C j 6) (fun j => C j 7) f g (cnF R 5) n d (by omega) i lt_i) s.heap.size) (cwV 1 hts gX4_lose_X4_drop rfl rfl rfl (by decide +kernel) ⟨Nat.le_of_ble_eq_true rfl, Nat.le_of_ble_eq_true rfl⟩) (preWV hK hP hD (va_recv hK hP (ci := 4) (q0 := 0) rfl rfl)) rfl rfl hl.1 rfl (lv_room (Nat.le_of_ble_eq_true rfl)) dX4_lose_18 ⟨Nat.le_of_ble_eq_true rfl, Nat.le_of_ble_eq_true rfl⟩) (fun H locs hP hD hS => ?_)
    refine lv_iconst (v := nI 1) hx hb dX4_lose_21 (by decide) ?_
    exact retIz hx hb hr hlk dX4_lose_22 rfl hS (by rw [lsS, if_pos c_11, e_i]; exact hP) (by rw [lsX, if_pos c_11]; rfl)
  · have c_11 := it_no c_11
    have c_11 := mt (wi_n (x := p0) n (by omega)).mpr c_11
    refine lv_iconst (v := nI 0) hx hb dX4_lose_14 (by decide) ?_
    exact retIz hx hb hr hlk dX4_lose_15 rfl hS (by rw [lsS, if_neg c_11]; exact hP) (by rw [lsX, if_neg c_11]; rfl)
theorem lkX4_repeat_50 : Cond.fieldLink RX4 50 "QuorumRegisterModel" "count" "I" ∈ wsX4_repeat := by decide +kernel
theorem inX4_repeat_X4 : ∀ w ∈ wsX40, w ∈ wsX4_repeat := by decide +kernel
theorem lkX4_repeat_44 : Cond.fieldLink RX4 44 "QuorumRegisterModel" "pool" "[I" ∈ wsX4_repeat := by decide +kernel
set_option maxHeartbeats 4000000 in
set_option maxRecDepth 100000 in
/-- repeat(i) -/
theorem k_X4_repeat (l : Launch) (dC : Nat → ClassId) (dI : Nat → Nat → Nat) (o : Nat → Nat) (k : Nat → ClassId) (R C : Nat → Nat → Int32) (an : Nat → Int32) (n : Nat) (f : Nat → Int32) (d : Nat) (g : Nat → Int32) (hn : n ≤ 77) (p0 : Int32) : MetI l yX4_repeat wsX4_repeat ({ frames := 1, cells := 0, slots := 0, locals := 27 } : Room) (dC, dI) vwCl (wMs o k (R, C, n, f, d, g) an) (tyM k) [.ref (o 0), .int p0] (rpX (R, C, n, f, d, g) p0) (wMs o k (rpS (R, C, n, f, d, g) p0) an) := by
  refine MetI.of (cc := cX4_repeat) (maxL := 2) (ret := (some .boolean)) (by decide) rfl (Nat.le_of_ble_eq_true rfl) rfl ?_
  intro p e s m below meth cd ls A hx hb hr hlk hml hown hts hK hP hD hS hA hl
  have hl : lv_has ls 2 [(0, .ref (o 0)), (1, .int p0)] := hl
  refine lv_iload_n hx hb dX4_repeat_0 rfl (lv_at hl 1 rfl) ?_
  refine lv_iconst (v := nI 0) hx hb dX4_repeat_1 (by decide) ?_
  refine lv_aload_n hx hb dX4_repeat_2 rfl (lv_at hl 0 rfl) ?_
  refine va_get (D := (dC, dI)) (ci := 4) (v := .int (nI n)) (C := RX4) (T := TX4) (N := 16) hx hb hts inX4_repeat_X4 hown hK hP (0) rfl rfl 13 (by decide) (hts _ lkX4_repeat_50) (fun _ h9 => h9) rfl dX4_repeat_3 ?_
  refine lv_iconst (v := nI 1) hx hb dX4_repeat_6 (by decide) ?_
  refine lv_isub hx hb dX4_repeat_7 ?_
  refine goS (va_runS (rm := ({ frames := 0, cells := 0, slots := 0, locals := 0 } : Room)) (As := [.int p0, .int (nI 0), .int ((nI n) - (nI 1))]) (rest := []) ⟨hx, hb, hml, hown, hts⟩ (MetS.at (k_X4_within l dC dI p0 (nI 0) ((nI n) - (nI 1)))) (va_cwS 3 hts gX4_repeat_X4_within rfl rfl rfl (by decide +kernel) ⟨Nat.le_of_ble_eq_true rfl, Nat.le_of_ble_eq_true rfl⟩) (preSS (hK.sub [] rfl) va_P0) rfl rfl hl.1 rfl (lv_room (Nat.le_of_ble_eq_true rfl)) dX4_repeat_8 ⟨Nat.le_of_ble_eq_true rfl, Nat.le_of_ble_eq_true rfl⟩) ?_
  refine lv_if_eq (tgt := 23) hx hb dX4_repeat_11 (by decide) (fun c_11 => ?_) (fun c_11 => ?_)
  · have c_11 := it_no c_11
    have c_11 := mt (wi_n (x := p0) n (by omega)).mpr c_11
    refine lv_iconst (v := nI 0) hx hb dX4_repeat_23 (by decide) ?_
    exact retIz hx hb hr hlk dX4_repeat_24 rfl hS (by rw [rpS, if_neg (fun q => c_11 q.1)]; exact hP) (by rw [rpX, if_neg (fun q => c_11 q.1)]; rfl)
  · have c_11 := it_yes c_11
    have c_11 := (wi_n (x := p0) n (by omega)).mp c_11
    refine lv_aload_n hx hb dX4_repeat_14 rfl (lv_at hl 0 rfl) ?_
    refine va_get (D := (dC, dI)) (ci := 4) (v := .int (nI n)) (C := RX4) (T := TX4) (N := 16) hx hb hts inX4_repeat_X4 hown hK hP (0) rfl rfl 13 (by decide) (hts _ lkX4_repeat_50) (fun _ h9 => h9) rfl dX4_repeat_15 ?_
    refine lv_bipush (v := nI 60) hx hb dX4_repeat_18 (by decide) ?_
    refine lv_icmp_le (tgt := 25) hx hb dX4_repeat_20 (by decide) (fun c_20 => ?_) (fun c_20 => ?_)
    · obtain ⟨i, lt_i, rfl⟩ := okI_of c_11 (by omega)
      have e_i : (nI i).toNatClampNeg = i := nI_clamp (by omega)
      refine lv_aload_n hx hb dX4_repeat_25 rfl (lv_at hl 0 rfl) ?_
      refine lv_aload_n hx hb dX4_repeat_26 rfl (lv_at hl 0 rfl) ?_
      refine va_get (D := (dC, dI)) (ci := 4) (v := .ref (o 12)) (C := RX4) (T := TX4) (N := 16) hx hb hts inX4_repeat_X4 hown hK hP (0) rfl rfl 12 (by decide) (hts _ lkX4_repeat_44) (fun _ h9 => h9) rfl dX4_repeat_27 ?_
      refine lv_bipush (v := nI 6) hx hb dX4_repeat_30 (by decide) ?_
      refine lv_iload_n hx hb dX4_repeat_32 rfl (lv_at hl 1 rfl) ?_
      refine lv_imul hx hb dX4_repeat_33 ?_
      refine qtop (y := nI (i * 6)) (mulc _ _) ?_
      refine q_iald hx hb hK hP (12) 11 (j := i * 6) rfl rfl (by omega) (Nat.le_of_ble_eq_true rfl) dX4_repeat_34 ?_
      refine lv_aload_n hx hb dX4_repeat_35 rfl (lv_at hl 0 rfl) ?_
      refine va_get (D := (dC, dI)) (ci := 4) (v := .ref (o 12)) (C := RX4) (T := TX4) (N := 16) hx hb hts inX4_repeat_X4 hown hK hP (0) rfl rfl 12 (by decide) (hts _ lkX4_repeat_44) (fun _ h9 => h9) rfl dX4_repeat_36 ?_
      refine lv_bipush (v := nI 6) hx hb dX4_repeat_39 (by decide) ?_
      refine lv_iload_n hx hb dX4_repeat_41 rfl (lv_at hl 1 rfl) ?_
      refine lv_imul hx hb dX4_repeat_42 ?_
      refine qtop (y := nI (i * 6)) (mulc _ _) ?_
      refine lv_iconst (v := nI 1) hx hb dX4_repeat_43 (by decide) ?_
      refine lv_iadd hx hb dX4_repeat_44 ?_
      refine qtop (y := nI ((i * 6) + 1)) (nI_add _ _) ?_
      refine q_iald hx hb hK hP (12) 11 (j := (i * 6) + 1) rfl rfl (by omega) (Nat.le_of_ble_eq_true rfl) dX4_repeat_45 ?_
      refine lv_aload_n hx hb dX4_repeat_46 rfl (lv_at hl 0 rfl) ?_
      refine va_get (D := (dC, dI)) (ci := 4) (v := .ref (o 12)) (C := RX4) (T := TX4) (N := 16) hx hb hts inX4_repeat_X4 hown hK hP (0) rfl rfl 12 (by decide) (hts _ lkX4_repeat_44) (fun _ h9 => h9) rfl dX4_repeat_47 ?_
      refine lv_bipush (v := nI 6) hx hb dX4_repeat_50 (by decide) ?_
      refine lv_iload_n hx hb dX4_repeat_52 rfl (lv_at hl 1 rfl) ?_
      refine lv_imul hx hb dX4_repeat_53 ?_
      refine qtop (y := nI (i * 6)) (mulc _ _) ?_
      refine lv_iconst (v := nI 2) hx hb dX4_repeat_54 (by decide) ?_
      refine lv_iadd hx hb dX4_repeat_55 ?_
      refine qtop (y := nI ((i * 6) + 2)) (nI_add _ _) ?_
      refine q_iald hx hb hK hP (12) 11 (j := (i * 6) + 2) rfl rfl (by omega) (Nat.le_of_ble_eq_true rfl) dX4_repeat_56 ?_
      refine lv_aload_n hx hb dX4_repeat_57 rfl (lv_at hl 0 rfl) ?_
      refine va_get (D := (dC, dI)) (ci := 4) (v := .ref (o 12)) (C := RX4) (T := TX4) (N := 16) hx hb hts inX4_repeat_X4 hown hK hP (0) rfl rfl 12 (by decide) (hts _ lkX4_repeat_44) (fun _ h9 => h9) rfl dX4_repeat_58 ?_
      refine lv_bipush (v := nI 6) hx hb dX4_repeat_61 (by decide) ?_
      refine lv_iload_n hx hb dX4_repeat_63 rfl (lv_at hl 1 rfl) ?_
      refine lv_imul hx hb dX4_repeat_64 ?_
      refine qtop (y := nI (i * 6)) (mulc _ _) ?_
      refine lv_iconst (v := nI 3) hx hb dX4_repeat_65 (by decide) ?_
      refine lv_iadd hx hb dX4_repeat_66 ?_
      refine qtop (y := nI ((i * 6) + 3)) (nI_add _ _) ?_
      refine q_iald hx hb hK hP (12) 11 (j := (i * 6) + 3) rfl rfl (by omega) (Nat.le_of_ble_eq_true rfl) dX4_repeat_67 ?_
      refine lv_aload_n hx hb dX4_repeat_68 rfl (lv_at hl 0 rfl) ?_
      refine va_get (D := (dC, dI)) (ci := 4) (v := .ref (o 12)) (C := RX4) (T := TX4) (N := 16) hx hb hts inX4_repeat_X4 hown hK hP (0) rfl rfl 12 (by decide) (hts _ lkX4_repeat_44) (fun _ h9 => h9) rfl dX4_repeat_69 ?_
      refine lv_bipush (v := nI 6) hx hb dX4_repeat_72 (by decide) ?_
      refine lv_iload_n hx hb dX4_repeat_74 rfl (lv_at hl 1 rfl) ?_
      refine lv_imul hx hb dX4_repeat_75 ?_
      refine qtop (y := nI (i * 6)) (mulc _ _) ?_
      refine lv_iconst (v := nI 4) hx hb dX4_repeat_76 (by decide) ?_
      refine lv_iadd hx hb dX4_repeat_77 ?_
      refine qtop (y := nI ((i * 6) + 4)) (nI_add _ _) ?_
      refine q_iald hx hb hK hP (12) 11 (j := (i * 6) + 4) rfl rfl (by omega) (Nat.le_of_ble_eq_true rfl) dX4_repeat_78 ?_
      refine lv_aload_n hx hb dX4_repeat_79 rfl (lv_at hl 0 rfl) ?_
      refine va_get (D := (dC, dI)) (ci := 4) (v := .ref (o 12)) (C := RX4) (T := TX4) (N := 16) hx hb hts inX4_repeat_X4 hown hK hP (0) rfl rfl 12 (by decide) (hts _ lkX4_repeat_44) (fun _ h9 => h9) rfl dX4_repeat_80 ?_
      refine lv_bipush (v := nI 6) hx hb dX4_repeat_83 (by decide) ?_
      refine lv_iload_n hx hb dX4_repeat_85 rfl (lv_at hl 1 rfl) ?_
      refine lv_imul hx hb dX4_repeat_86 ?_
      refine qtop (y := nI (i * 6)) (mulc _ _) ?_
      refine lv_iconst (v := nI 5) hx hb dX4_repeat_87 (by decide) ?_
      refine lv_iadd hx hb dX4_repeat_88 ?_
      refine qtop (y := nI ((i * 6) + 5)) (nI_add _ _) ?_
      refine q_iald hx hb hK hP (12) 11 (j := (i * 6) + 5) rfl rfl (by omega) (Nat.le_of_ble_eq_true rfl) dX4_repeat_89 ?_
      refine goV (ws := (wMs o k (R, C, n, f, d, g) an)) (ws' := (wMc o k (fun j => R j 0) (fun j => R j 1) (fun j => R j 2) (fun j => C j 0) (fun j => C j 1) (fun j => C j 2) (fun j => C j 3) an (fun j => C j 5) (fun j => C j 6) (fun j => C j 7) (snd6 f n (f (i * 6)) (f ((i * 6) + 1)) (f ((i * 6) + 2)) (f ((i * 6) + 3)) (f ((i * 6) + 4)) (f ((i * 6) + 5))) g (cnF R 5) (n + 1) d)) (qFit_all rfl) hP hD hS hA (va_runV (rm := ({ frames := 0, cells := 0, slots := 0, locals := 0 } : Room)) (As := [.int (f (i * 6)), .int (f ((i * 6) + 1)), .int (f ((i * 6) + 2)), .int (f ((i * 6) + 3)), .int (f ((i * 6) + 4)), .int (f ((i * 6) + 5))]) (rest := []) ⟨hx, hb, hml, hown, hts⟩ (MetV.at (k_X4_send l dC dI o k (fun j => R j 0) (fun j => R j 1) (fun j => R j 2) (fun j => C j 0) (fun j => C j 1) (fun j => C j 2) (fun j => C j 3) an (fun j => C j 5) (fun j => C j 6) (fun j => C j 7) f g (cnF R 5) n d (by omega) (f (i * 6)) (f ((i * 6) + 1)) (f ((i * 6) + 2)) (f ((i * 6) + 3)) (f ((i * 6) + 4)) (f ((i * 6) + 5))) s.heap.size) (cwV 6 hts gX4_repeat_X4_send rfl rfl rfl (by decide +kernel) ⟨Nat.le_of_ble_eq_true rfl, Nat.le_of_ble_eq_true rfl⟩) (preWV hK hP hD (va_recv hK hP (ci := 4) (q0 := 0) rfl rfl)) rfl rfl hl.1 rfl (lv_room (Nat.le_of_ble_eq_true rfl)) dX4_repeat_90 ⟨Nat.le_of_ble_eq_true rfl, Nat.le_of_ble_eq_true rfl⟩) (fun H locs hP hD hS => ?_)
      refine lv_iconst (v := nI 1) hx hb dX4_repeat_93 (by decide) ?_
      exact retIz hx hb hr hlk dX4_repeat_94 rfl hS (by rw [rpS, if_pos ⟨c_11, (fun q => absurd c_20 (nI_ge q (by omega)))⟩, e_i]; rw [rep_eq] at hP; exact hP) (by rw [rpX, if_pos ⟨c_11, (fun q => absurd c_20 (nI_ge q (by omega)))⟩]; rfl)
    · refine lv_iconst (v := nI 0) hx hb dX4_repeat_23 (by decide) ?_
      exact retIz hx hb hr hlk dX4_repeat_24 rfl hS (by rw [rpS, if_neg (fun q => q.2 ((Nat.lt_or_ge 60 n).elim id (fun q => absurd (nI_le q (by decide)) c_20)))]; exact hP) (by rw [rpX, if_neg (fun q => q.2 ((Nat.lt_or_ge 60 n).elim id (fun q => absurd (nI_le q (by decide)) c_20)))]; rfl)
theorem lkX4_fail_16 : Cond.fieldLink RX4 16 "QuorumRegisterModel" "failed" "[Z" ∈ wsX4_fail := by decide +kernel
theorem inX4_fail_X4 : ∀ w ∈ wsX40, w ∈ wsX4_fail := by decide +kernel
theorem lkX4_fail_81 : Cond.fieldLink RX4 81 "QuorumRegisterModel" "failures" "I" ∈ wsX4_fail := by decide +kernel
set_option maxHeartbeats 4000000 in
set_option maxRecDepth 100000 in
/-- fail(r) -/
theorem k_X4_fail (l : Launch) (dC : Nat → ClassId) (dI : Nat → Nat → Nat) (o : Nat → Nat) (k : Nat → ClassId) (R C : Nat → Nat → Int32) (an : Nat → Int32) (n : Nat) (f : Nat → Int32) (d : Nat) (g : Nat → Int32) (hfl : cnF R 5 ≤ 2) (p0 : Int32) : MetI l yX4_fail wsX4_fail ({ frames := 1, cells := 0, slots := 0, locals := 22 } : Room) (dC, dI) vwCl (wMs o k (R, C, n, f, d, g) an) (tyM k) [.ref (o 0), .int p0] (flX (R, C, n, f, d, g) p0) (wMs o k (flS (R, C, n, f, d, g) p0) an) := by
  refine MetI.of (cc := cX4_fail) (maxL := 2) (ret := (some .boolean)) (by decide) rfl (Nat.le_of_ble_eq_true rfl) rfl ?_
  intro p e s m below meth cd ls A hx hb hr hlk hml hown hts hK hP hD hS hA hl
  have hl : lv_has ls 2 [(0, .ref (o 0)), (1, .int p0)] := hl
  refine lv_iload_n hx hb dX4_fail_0 rfl (lv_at hl 1 rfl) ?_
  refine lv_iconst (v := nI 0) hx hb dX4_fail_1 (by decide) ?_
  refine lv_iconst (v := nI 4) hx hb dX4_fail_2 (by decide) ?_
  refine goS (va_runS (rm := ({ frames := 0, cells := 0, slots := 0, locals := 0 } : Room)) (As := [.int p0, .int (nI 0), .int (nI 4)]) (rest := []) ⟨hx, hb, hml, hown, hts⟩ (MetS.at (k_X4_within l dC dI p0 (nI 0) (nI 4))) (va_cwS 3 hts gX4_fail_X4_within rfl rfl rfl (by decide +kernel) ⟨Nat.le_of_ble_eq_true rfl, Nat.le_of_ble_eq_true rfl⟩) (preSS (hK.sub [] rfl) va_P0) rfl rfl hl.1 rfl (lv_room (Nat.le_of_ble_eq_true rfl)) dX4_fail_3 ⟨Nat.le_of_ble_eq_true rfl, Nat.le_of_ble_eq_true rfl⟩) ?_
  refine lv_if_eq (tgt := 26) hx hb dX4_fail_6 (by decide) (fun c_6 => ?_) (fun c_6 => ?_)
  · have c_6 := it_no c_6
    have c_6 := mt (wi_s (x := p0) 4 (Nat.le_of_ble_eq_true rfl)).mpr c_6
    refine lv_iconst (v := nI 0) hx hb dX4_fail_26 (by decide) ?_
    exact retIz hx hb hr hlk dX4_fail_27 rfl hS (by rw [flS, if_neg (fun q => c_6 q.1)]; exact hP) (by rw [flX, if_neg (fun q => c_6 q.1)]; rfl)
  · have c_6 := it_yes c_6
    have c_6 := (wi_s (x := p0) 4 (Nat.le_of_ble_eq_true rfl)).mp c_6
    obtain ⟨j, lt_j, rfl⟩ := okI_of c_6 (by omega)
    have e_j : (nI j).toNatClampNeg = j := nI_clamp (by omega)
    refine lv_aload_n hx hb dX4_fail_9 rfl (lv_at hl 0 rfl) ?_
    refine va_get (D := (dC, dI)) (ci := 4) (v := .ref (o 3)) (C := RX4) (T := TX4) (N := 16) hx hb hts inX4_fail_X4 hown hK hP (0) rfl rfl 2 (by decide) (hts _ lkX4_fail_16) (fun _ h9 => h9) rfl dX4_fail_10 ?_
    refine lv_iload_n hx hb dX4_fail_13 rfl (lv_at hl 1 rfl) ?_
    refine q_zald hx hb hK hP (3) 2 (j := j) rfl rfl lt_j (Nat.le_of_ble_eq_true rfl) dX4_fail_14 ?_
    refine lv_if_ne (tgt := 26) hx hb dX4_fail_15 (by decide) (fun c_15 => ?_) (fun c_15 => ?_)
    · refine lv_iconst (v := nI 0) hx hb dX4_fail_26 (by decide) ?_
      exact retIz hx hb hr hlk dX4_fail_27 rfl hS (by rw [flS, if_neg (fun q => c_15 (by have := q.2.1; rw [e_j] at this; exact this))]; exact hP) (by rw [flX, if_neg (fun q => c_15 (by have := q.2.1; rw [e_j] at this; exact this))]; rfl)
    · refine lv_aload_n hx hb dX4_fail_18 rfl (lv_at hl 0 rfl) ?_
      refine va_get (D := (dC, dI)) (ci := 4) (v := .int (nI (cnF R 5))) (C := RX4) (T := TX4) (N := 16) hx hb hts inX4_fail_X4 hown hK hP (0) rfl rfl 3 (by decide) (hts _ lkX4_fail_81) (fun _ h9 => h9) rfl dX4_fail_19 ?_
      refine lv_iconst (v := nI 2) hx hb dX4_fail_22 (by decide) ?_
      refine lv_icmp_ne (tgt := 28) hx hb dX4_fail_23 (by decide) (fun c_23 => ?_) (fun c_23 => ?_)
      · refine lv_aload_n hx hb dX4_fail_28 rfl (lv_at hl 0 rfl) ?_
        refine va_get (D := (dC, dI)) (ci := 4) (v := .ref (o 3)) (C := RX4) (T := TX4) (N := 16) hx hb hts inX4_fail_X4 hown hK hP (0) rfl rfl 2 (by decide) (hts _ lkX4_fail_16) (fun _ h9 => h9) rfl dX4_fail_29 ?_
        refine lv_iload_n hx hb dX4_fail_32 rfl (lv_at hl 1 rfl) ?_
        refine lv_iconst (v := nI 1) hx hb dX4_fail_33 (by decide) ?_
        refine q_zast (ws' := (wMc o k (fun j => R j 0) (fun j => R j 1) (upd (fun j => R j 2) j (nI 1)) (fun j => C j 0) (fun j => C j 1) (fun j => C j 2) (fun j => C j 3) an (fun j => C j 5) (fun j => C j 6) (fun j => C j 7) f g (cnF R 5) n d)) hx hb hK hP hD hS (3) 2 (j := j) rfl rfl lt_j (Nat.le_of_ble_eq_true rfl) rfl rfl dX4_fail_34 (fun H locs hP hD hS => ?_)
        refine lv_aload_n hx hb dX4_fail_35 rfl (lv_at hl 0 rfl) ?_
        refine lv_dup hx hb dX4_fail_36 rfl ?_
        refine va_get (D := (dC, dI)) (ci := 4) (v := .int (nI (cnF R 5))) (C := RX4) (T := TX4) (N := 16) hx hb hts inX4_fail_X4 hown hK hP (0) rfl rfl 3 (by decide) (hts _ lkX4_fail_81) (fun _ h9 => h9) rfl dX4_fail_37 ?_
        refine lv_iconst (v := nI 1) hx hb dX4_fail_40 (by decide) ?_
        refine lv_iadd hx hb dX4_fail_41 ?_
        refine qtop (y := nI ((cnF R 5) + 1)) (nI_add _ _) ?_
        refine q_put (D := (dC, dI)) (ci := 4) (v := .int (nI ((cnF R 5) + 1))) (ty := .int) (C := RX4) (T := TX4) (N := 16) (ws' := (wMc o k (fun j => R j 0) (fun j => R j 1) (upd (fun j => R j 2) j (nI 1)) (fun j => C j 0) (fun j => C j 1) (fun j => C j 2) (fun j => C j 3) an (fun j => C j 5) (fun j => C j 6) (fun j => C j 7) f g ((cnF R 5) + 1) n d)) hx hb hts inX4_fail_X4 tyX4 tyX4_ok nmX4 hown hK hP hD hS (0) rfl rfl 3 (by decide) (hts _ lkX4_fail_81) (fun _ h9 => h9) rfl (by decide +kernel) rfl rfl (Nat.le_of_ble_eq_true rfl) rfl dX4_fail_42 (fun H locs hP hD hS => ?_)
        refine lv_iconst (v := nI 1) hx hb dX4_fail_45 (by decide) ?_
        exact retIz hx hb hr hlk dX4_fail_46 rfl hS (by rw [flS, if_pos ⟨c_6, by rw [e_j]; exact c_15, (show cnF R 5 < 2 from by have : ¬ cnF R 5 = 2 := fun q => c_23 (by rw [q]); omega)⟩, e_j]; show va_P _ _ (wM o k (up2 R j 2 (nI 1)) C an n f d g (cnF (up2 R j 2 (nI 1)) 5)) _; rw [cnF_up lt_j c_15]; exact va_Pe (wM_of (fun q => by simp [up2]) (fun q => by simp [up2]) (fun q => by simp [upd, up2]) (fun _ => rfl) (fun _ => rfl) (fun _ => rfl) (fun _ => rfl) (fun _ => rfl) (fun _ => rfl) (fun _ => rfl)) hP) (by rw [flX, if_pos ⟨c_6, by rw [e_j]; exact c_15, (show cnF R 5 < 2 from by have : ¬ cnF R 5 = 2 := fun q => c_23 (by rw [q]); omega)⟩]; rfl)
      · refine lv_iconst (v := nI 0) hx hb dX4_fail_26 (by decide) ?_
        exact retIz hx hb hr hlk dX4_fail_27 rfl hS (by rw [flS, if_neg (fun q => by have w := q.2.2; rw [(nI_eq (by omega) (by decide)).mp c_23] at w; exact absurd w (by decide))]; exact hP) (by rw [flX, if_neg (fun q => by have w := q.2.2; rw [(nI_eq (by omega) (by decide)).mp c_23] at w; exact absurd w (by decide))]; rfl)
theorem lkX4_messages_50 : Cond.fieldLink RX4 50 "QuorumRegisterModel" "count" "I" ∈ wsX4_messages := by decide +kernel
theorem inX4_messages_X4 : ∀ w ∈ wsX40, w ∈ wsX4_messages := by decide +kernel
set_option maxHeartbeats 4000000 in
set_option maxRecDepth 100000 in
/-- X4_messages -/
theorem k_X4_messages (l : Launch) (dC : Nat → ClassId) (dI : Nat → Nat → Nat) (o : Nat → Nat) (k : Nat → ClassId) (R C : Nat → Nat → Int32) (an : Nat → Int32) (n : Nat) (f : Nat → Int32) (d : Nat) (g : Nat → Int32) : MetS l yX4_messages wsX4_messages ({ frames := 0, cells := 0, slots := 0, locals := 0 } : Room) (dC, dI) vwCl (wMs o k (R, C, n, f, d, g) an) (tyM k) [.ref (o 0)] (nI n) := by
  refine MetS.of (cc := cX4_messages) (maxL := 1) (ret := (some .int)) (by decide) rfl (Nat.le_of_ble_eq_true rfl) rfl ?_
  intro p e s m below meth cd ls hx hb hr hlk hml hown hts hK hP hl
  have hl : lv_has ls 1 [(0, .ref (o 0))] := hl
  refine lv_aload_n hx hb dX4_messages_0 rfl (lv_at hl 0 rfl) ?_
  refine va_get (D := (dC, dI)) (ci := 4) (v := .int (nI n)) (C := RX4) (T := TX4) (N := 16) hx hb hts inX4_messages_X4 hown hK hP (0) rfl rfl 13 (by decide) (hts _ lkX4_messages_50) (fun _ h9 => h9) rfl dX4_messages_1 ?_
  exact retS hx hb hr hlk dX4_messages_4 (rfl)
theorem lkX4_finished_78 : Cond.fieldLink RX4 78 "QuorumRegisterModel" "finished" "I" ∈ wsX4_finished := by decide +kernel
theorem inX4_finished_X4 : ∀ w ∈ wsX40, w ∈ wsX4_finished := by decide +kernel
set_option maxHeartbeats 4000000 in
set_option maxRecDepth 100000 in
/-- X4_finished -/
theorem k_X4_finished (l : Launch) (dC : Nat → ClassId) (dI : Nat → Nat → Nat) (o : Nat → Nat) (k : Nat → ClassId) (R C : Nat → Nat → Int32) (an : Nat → Int32) (n : Nat) (f : Nat → Int32) (d : Nat) (g : Nat → Int32) : MetS l yX4_finished wsX4_finished ({ frames := 0, cells := 0, slots := 0, locals := 0 } : Room) (dC, dI) vwCl (wMs o k (R, C, n, f, d, g) an) (tyM k) [.ref (o 0)] (nI d) := by
  refine MetS.of (cc := cX4_finished) (maxL := 1) (ret := (some .int)) (by decide) rfl (Nat.le_of_ble_eq_true rfl) rfl ?_
  intro p e s m below meth cd ls hx hb hr hlk hml hown hts hK hP hl
  have hl : lv_has ls 1 [(0, .ref (o 0))] := hl
  refine lv_aload_n hx hb dX4_finished_0 rfl (lv_at hl 0 rfl) ?_
  refine va_get (D := (dC, dI)) (ci := 4) (v := .int (nI d)) (C := RX4) (T := TX4) (N := 16) hx hb hts inX4_finished_X4 hown hK hP (0) rfl rfl 15 (by decide) (hts _ lkX4_finished_78) (fun _ h9 => h9) rfl dX4_finished_1 ?_
  exact retS hx hb hr hlk dX4_finished_4 (rfl)
theorem lkX4_tag_7 : Cond.fieldLink RX4 7 "QuorumRegisterModel" "tag" "[I" ∈ wsX4_tag := by decide +kernel
theorem inX4_tag_X4 : ∀ w ∈ wsX40, w ∈ wsX4_tag := by decide +kernel
set_option maxHeartbeats 4000000 in
set_option maxRecDepth 100000 in
/-- X4_tag -/
theorem k_X4_tag (l : Launch) (dC : Nat → ClassId) (dI : Nat → Nat → Nat) (o : Nat → Nat) (k : Nat → ClassId) (R C : Nat → Nat → Int32) (an : Nat → Int32) (n : Nat) (f : Nat → Int32) (d : Nat) (g : Nat → Int32) (p0 : Int32) : MetS l yX4_tag wsX4_tag ({ frames := 1, cells := 0, slots := 0, locals := 22 } : Room) (dC, dI) vwCl (wMs o k (R, C, n, f, d, g) an) (tyM k) [.ref (o 0), .int p0] (if okI p0 5 then R p0.toNatClampNeg 0 else (-1)) := by
  refine MetS.of (cc := cX4_tag) (maxL := 2) (ret := (some .int)) (by decide) rfl (Nat.le_of_ble_eq_true rfl) rfl ?_
  intro p e s m below meth cd ls hx hb hr hlk hml hown hts hK hP hl
  have hl : lv_has ls 2 [(0, .ref (o 0)), (1, .int p0)] := hl
  refine lv_iload_n hx hb dX4_tag_0 rfl (lv_at hl 1 rfl) ?_
  refine lv_iconst (v := nI 0) hx hb dX4_tag_1 (by decide) ?_
  refine lv_iconst (v := nI 4) hx hb dX4_tag_2 (by decide) ?_
  refine goS (va_runS (rm := ({ frames := 0, cells := 0, slots := 0, locals := 0 } : Room)) (As := [.int p0, .int (nI 0), .int (nI 4)]) (rest := []) ⟨hx, hb, hml, hown, hts⟩ (MetS.at (k_X4_within l dC dI p0 (nI 0) (nI 4))) (va_cwS 3 hts gX4_tag_X4_within rfl rfl rfl (by decide +kernel) ⟨Nat.le_of_ble_eq_true rfl, Nat.le_of_ble_eq_true rfl⟩) (preSS (hK.sub [] rfl) va_P0) rfl rfl hl.1 rfl (lv_room (Nat.le_of_ble_eq_true rfl)) dX4_tag_3 ⟨Nat.le_of_ble_eq_true rfl, Nat.le_of_ble_eq_true rfl⟩) ?_
  refine lv_if_eq (tgt := 18) hx hb dX4_tag_6 (by decide) (fun c_6 => ?_) (fun c_6 => ?_)
  · have c_6 := it_no c_6
    have c_6 := mt (wi_s (x := p0) 4 (Nat.le_of_ble_eq_true rfl)).mpr c_6
    refine lv_iconst (v := (-1)) hx hb dX4_tag_18 (by decide) ?_
    exact retS hx hb hr hlk dX4_tag_19 ((if_neg c_6).symm)
  · have c_6 := it_yes c_6
    have c_6 := (wi_s (x := p0) 4 (Nat.le_of_ble_eq_true rfl)).mp c_6
    obtain ⟨j, lt_j, rfl⟩ := okI_of c_6 (by omega)
    have e_j : (nI j).toNatClampNeg = j := nI_clamp (by omega)
    refine lv_aload_n hx hb dX4_tag_9 rfl (lv_at hl 0 rfl) ?_
    refine va_get (D := (dC, dI)) (ci := 4) (v := .ref (o 1)) (C := RX4) (T := TX4) (N := 16) hx hb hts inX4_tag_X4 hown hK hP (0) rfl rfl 0 (by decide) (hts _ lkX4_tag_7) (fun _ h9 => h9) rfl dX4_tag_10 ?_
    refine lv_iload_n hx hb dX4_tag_13 rfl (lv_at hl 1 rfl) ?_
    refine q_iald hx hb hK hP (1) 0 (j := j) rfl rfl lt_j (Nat.le_of_ble_eq_true rfl) dX4_tag_14 ?_
    refine lv_goto (tgt := 19) hx hb dX4_tag_15 (by decide) ?_
    exact retS hx hb hr hlk dX4_tag_19 (by rw [if_pos c_6, e_j])
theorem lkX4_value_13 : Cond.fieldLink RX4 13 "QuorumRegisterModel" "value" "[I" ∈ wsX4_value := by decide +kernel
theorem inX4_value_X4 : ∀ w ∈ wsX40, w ∈ wsX4_value := by decide +kernel
set_option maxHeartbeats 4000000 in
set_option maxRecDepth 100000 in
/-- X4_value -/
theorem k_X4_value (l : Launch) (dC : Nat → ClassId) (dI : Nat → Nat → Nat) (o : Nat → Nat) (k : Nat → ClassId) (R C : Nat → Nat → Int32) (an : Nat → Int32) (n : Nat) (f : Nat → Int32) (d : Nat) (g : Nat → Int32) (p0 : Int32) : MetS l yX4_value wsX4_value ({ frames := 1, cells := 0, slots := 0, locals := 22 } : Room) (dC, dI) vwCl (wMs o k (R, C, n, f, d, g) an) (tyM k) [.ref (o 0), .int p0] (if okI p0 5 then R p0.toNatClampNeg 1 else 0) := by
  refine MetS.of (cc := cX4_value) (maxL := 2) (ret := (some .int)) (by decide) rfl (Nat.le_of_ble_eq_true rfl) rfl ?_
  intro p e s m below meth cd ls hx hb hr hlk hml hown hts hK hP hl
  have hl : lv_has ls 2 [(0, .ref (o 0)), (1, .int p0)] := hl
  refine lv_iload_n hx hb dX4_value_0 rfl (lv_at hl 1 rfl) ?_
  refine lv_iconst (v := nI 0) hx hb dX4_value_1 (by decide) ?_
  refine lv_iconst (v := nI 4) hx hb dX4_value_2 (by decide) ?_
  refine goS (va_runS (rm := ({ frames := 0, cells := 0, slots := 0, locals := 0 } : Room)) (As := [.int p0, .int (nI 0), .int (nI 4)]) (rest := []) ⟨hx, hb, hml, hown, hts⟩ (MetS.at (k_X4_within l dC dI p0 (nI 0) (nI 4))) (va_cwS 3 hts gX4_value_X4_within rfl rfl rfl (by decide +kernel) ⟨Nat.le_of_ble_eq_true rfl, Nat.le_of_ble_eq_true rfl⟩) (preSS (hK.sub [] rfl) va_P0) rfl rfl hl.1 rfl (lv_room (Nat.le_of_ble_eq_true rfl)) dX4_value_3 ⟨Nat.le_of_ble_eq_true rfl, Nat.le_of_ble_eq_true rfl⟩) ?_
  refine lv_if_eq (tgt := 18) hx hb dX4_value_6 (by decide) (fun c_6 => ?_) (fun c_6 => ?_)
  · have c_6 := it_no c_6
    have c_6 := mt (wi_s (x := p0) 4 (Nat.le_of_ble_eq_true rfl)).mpr c_6
    refine lv_iconst (v := nI 0) hx hb dX4_value_18 (by decide) ?_
    exact retS hx hb hr hlk dX4_value_19 ((if_neg c_6).symm)
  · have c_6 := it_yes c_6
    have c_6 := (wi_s (x := p0) 4 (Nat.le_of_ble_eq_true rfl)).mp c_6
    obtain ⟨j, lt_j, rfl⟩ := okI_of c_6 (by omega)
    have e_j : (nI j).toNatClampNeg = j := nI_clamp (by omega)
    refine lv_aload_n hx hb dX4_value_9 rfl (lv_at hl 0 rfl) ?_
    refine va_get (D := (dC, dI)) (ci := 4) (v := .ref (o 2)) (C := RX4) (T := TX4) (N := 16) hx hb hts inX4_value_X4 hown hK hP (0) rfl rfl 1 (by decide) (hts _ lkX4_value_13) (fun _ h9 => h9) rfl dX4_value_10 ?_
    refine lv_iload_n hx hb dX4_value_13 rfl (lv_at hl 1 rfl) ?_
    refine q_iald hx hb hK hP (2) 1 (j := j) rfl rfl lt_j (Nat.le_of_ble_eq_true rfl) dX4_value_14 ?_
    refine lv_goto (tgt := 19) hx hb dX4_value_15 (by decide) ?_
    exact retS hx hb hr hlk dX4_value_19 (by rw [if_pos c_6, e_j])
theorem lkX4_phase_20 : Cond.fieldLink RX4 20 "QuorumRegisterModel" "phase" "[I" ∈ wsX4_phase := by decide +kernel
theorem inX4_phase_X4 : ∀ w ∈ wsX40, w ∈ wsX4_phase := by decide +kernel
set_option maxHeartbeats 4000000 in
set_option maxRecDepth 100000 in
/-- X4_phase -/
theorem k_X4_phase (l : Launch) (dC : Nat → ClassId) (dI : Nat → Nat → Nat) (o : Nat → Nat) (k : Nat → ClassId) (R C : Nat → Nat → Int32) (an : Nat → Int32) (n : Nat) (f : Nat → Int32) (d : Nat) (g : Nat → Int32) (p0 : Int32) : MetS l yX4_phase wsX4_phase ({ frames := 1, cells := 0, slots := 0, locals := 22 } : Room) (dC, dI) vwCl (wMs o k (R, C, n, f, d, g) an) (tyM k) [.ref (o 0), .int p0] (if okI p0 3 then C p0.toNatClampNeg 0 else (-1)) := by
  refine MetS.of (cc := cX4_phase) (maxL := 2) (ret := (some .int)) (by decide) rfl (Nat.le_of_ble_eq_true rfl) rfl ?_
  intro p e s m below meth cd ls hx hb hr hlk hml hown hts hK hP hl
  have hl : lv_has ls 2 [(0, .ref (o 0)), (1, .int p0)] := hl
  refine lv_iload_n hx hb dX4_phase_0 rfl (lv_at hl 1 rfl) ?_
  refine lv_iconst (v := nI 0) hx hb dX4_phase_1 (by decide) ?_
  refine lv_iconst (v := nI 2) hx hb dX4_phase_2 (by decide) ?_
  refine goS (va_runS (rm := ({ frames := 0, cells := 0, slots := 0, locals := 0 } : Room)) (As := [.int p0, .int (nI 0), .int (nI 2)]) (rest := []) ⟨hx, hb, hml, hown, hts⟩ (MetS.at (k_X4_within l dC dI p0 (nI 0) (nI 2))) (va_cwS 3 hts gX4_phase_X4_within rfl rfl rfl (by decide +kernel) ⟨Nat.le_of_ble_eq_true rfl, Nat.le_of_ble_eq_true rfl⟩) (preSS (hK.sub [] rfl) va_P0) rfl rfl hl.1 rfl (lv_room (Nat.le_of_ble_eq_true rfl)) dX4_phase_3 ⟨Nat.le_of_ble_eq_true rfl, Nat.le_of_ble_eq_true rfl⟩) ?_
  refine lv_if_eq (tgt := 18) hx hb dX4_phase_6 (by decide) (fun c_6 => ?_) (fun c_6 => ?_)
  · have c_6 := it_no c_6
    have c_6 := mt (wi_s (x := p0) 2 (Nat.le_of_ble_eq_true rfl)).mpr c_6
    refine lv_iconst (v := (-1)) hx hb dX4_phase_18 (by decide) ?_
    exact retS hx hb hr hlk dX4_phase_19 ((if_neg c_6).symm)
  · have c_6 := it_yes c_6
    have c_6 := (wi_s (x := p0) 2 (Nat.le_of_ble_eq_true rfl)).mp c_6
    obtain ⟨j, lt_j, rfl⟩ := okI_of c_6 (by omega)
    have e_j : (nI j).toNatClampNeg = j := nI_clamp (by omega)
    refine lv_aload_n hx hb dX4_phase_9 rfl (lv_at hl 0 rfl) ?_
    refine va_get (D := (dC, dI)) (ci := 4) (v := .ref (o 4)) (C := RX4) (T := TX4) (N := 16) hx hb hts inX4_phase_X4 hown hK hP (0) rfl rfl 4 (by decide) (hts _ lkX4_phase_20) (fun _ h9 => h9) rfl dX4_phase_10 ?_
    refine lv_iload_n hx hb dX4_phase_13 rfl (lv_at hl 1 rfl) ?_
    refine q_iald hx hb hK hP (4) 3 (j := j) rfl rfl lt_j (Nat.le_of_ble_eq_true rfl) dX4_phase_14 ?_
    refine lv_goto (tgt := 19) hx hb dX4_phase_15 (by decide) ?_
    exact retS hx hb hr hlk dX4_phase_19 (by rw [if_pos c_6, e_j])
theorem lkX4_answered_20 : Cond.fieldLink RX4 20 "QuorumRegisterModel" "phase" "[I" ∈ wsX4_answered := by decide +kernel
theorem inX4_answered_X4 : ∀ w ∈ wsX40, w ∈ wsX4_answered := by decide +kernel
theorem lkX4_answered_32 : Cond.fieldLink RX4 32 "QuorumRegisterModel" "answers" "[I" ∈ wsX4_answered := by decide +kernel
set_option maxHeartbeats 4000000 in
set_option maxRecDepth 100000 in
/-- answered(c) -/
theorem k_X4_answered (l : Launch) (dC : Nat → ClassId) (dI : Nat → Nat → Nat) (o : Nat → Nat) (k : Nat → ClassId) (R C : Nat → Nat → Int32) (an : Nat → Int32) (n : Nat) (f : Nat → Int32) (d : Nat) (g : Nat → Int32) (p0 : Int32) : MetS l yX4_answered wsX4_answered ({ frames := 1, cells := 0, slots := 0, locals := 22 } : Room) (dC, dI) vwCl (wMs o k (R, C, n, f, d, g) an) (tyM k) [.ref (o 0), .int p0] (if okI p0 3 then (if C p0.toNatClampNeg 0 = 0 then 0 else an p0.toNatClampNeg) else (-1)) := by
  refine MetS.of (cc := cX4_answered) (maxL := 2) (ret := (some .int)) (by decide) rfl (Nat.le_of_ble_eq_true rfl) rfl ?_
  intro p e s m below meth cd ls hx hb hr hlk hml hown hts hK hP hl
  have hl : lv_has ls 2 [(0, .ref (o 0)), (1, .int p0)] := hl
  refine lv_iload_n hx hb dX4_answered_0 rfl (lv_at hl 1 rfl) ?_
  refine lv_iconst (v := nI 0) hx hb dX4_answered_1 (by decide) ?_
  refine lv_iconst (v := nI 2) hx hb dX4_answered_2 (by decide) ?_
  refine goS (va_runS (rm := ({ frames := 0, cells := 0, slots := 0, locals := 0 } : Room)) (As := [.int p0, .int (nI 0), .int (nI 2)]) (rest := []) ⟨hx, hb, hml, hown, hts⟩ (MetS.at (k_X4_within l dC dI p0 (nI 0) (nI 2))) (va_cwS 3 hts gX4_answered_X4_within rfl rfl rfl (by decide +kernel) ⟨Nat.le_of_ble_eq_true rfl, Nat.le_of_ble_eq_true rfl⟩) (preSS (hK.sub [] rfl) va_P0) rfl rfl hl.1 rfl (lv_room (Nat.le_of_ble_eq_true rfl)) dX4_answered_3 ⟨Nat.le_of_ble_eq_true rfl, Nat.le_of_ble_eq_true rfl⟩) ?_
  refine lv_if_ne (tgt := 13) hx hb dX4_answered_6 (by decide) (fun c_6 => ?_) (fun c_6 => ?_)
  · have c_6 := it_yes c_6
    have c_6 := (wi_s (x := p0) 2 (Nat.le_of_ble_eq_true rfl)).mp c_6
    obtain ⟨j, lt_j, rfl⟩ := okI_of c_6 (by omega)
    have e_j : (nI j).toNatClampNeg = j := nI_clamp (by omega)
    refine lv_aload_n hx hb dX4_answered_13 rfl (lv_at hl 0 rfl) ?_
    refine va_get (D := (dC, dI)) (ci := 4) (v := .ref (o 4)) (C := RX4) (T := TX4) (N := 16) hx hb hts inX4_answered_X4 hown hK hP (0) rfl rfl 4 (by decide) (hts _ lkX4_answered_20) (fun _ h9 => h9) rfl dX4_answered_14 ?_
    refine lv_iload_n hx hb dX4_answered_17 rfl (lv_at hl 1 rfl) ?_
    refine q_iald hx hb hK hP (4) 3 (j := j) rfl rfl lt_j (Nat.le_of_ble_eq_true rfl) dX4_answered_18 ?_
    refine lv_if_ne (tgt := 26) hx hb dX4_answered_19 (by decide) (fun c_19 => ?_) (fun c_19 => ?_)
    · refine lv_aload_n hx hb dX4_answered_26 rfl (lv_at hl 0 rfl) ?_
      refine va_get (D := (dC, dI)) (ci := 4) (v := .ref (o 8)) (C := RX4) (T := TX4) (N := 16) hx hb hts inX4_answered_X4 hown hK hP (0) rfl rfl 8 (by decide) (hts _ lkX4_answered_32) (fun _ h9 => h9) rfl dX4_answered_27 ?_
      refine lv_iload_n hx hb dX4_answered_30 rfl (lv_at hl 1 rfl) ?_
      refine q_iald hx hb hK hP (8) 7 (j := j) rfl rfl lt_j (Nat.le_of_ble_eq_true rfl) dX4_answered_31 ?_
      exact retS hx hb hr hlk dX4_answered_32 (by rw [if_pos c_6, e_j, if_neg c_19])
    · refine lv_iconst (v := nI 0) hx hb dX4_answered_22 (by decide) ?_
      refine lv_goto (tgt := 32) hx hb dX4_answered_23 (by decide) ?_
      exact retS hx hb hr hlk dX4_answered_32 (by rw [if_pos c_6, e_j, if_pos c_19]; rfl)
  · have c_6 := it_no c_6
    have c_6 := mt (wi_s (x := p0) 2 (Nat.le_of_ble_eq_true rfl)).mpr c_6
    refine lv_iconst (v := (-1)) hx hb dX4_answered_9 (by decide) ?_
    refine lv_goto (tgt := 32) hx hb dX4_answered_10 (by decide) ?_
    exact retS hx hb hr hlk dX4_answered_32 (by rw [if_neg c_6])
theorem lkX4_failed_16 : Cond.fieldLink RX4 16 "QuorumRegisterModel" "failed" "[Z" ∈ wsX4_failed := by decide +kernel
theorem inX4_failed_X4 : ∀ w ∈ wsX40, w ∈ wsX4_failed := by decide +kernel
set_option maxHeartbeats 4000000 in
set_option maxRecDepth 100000 in
/-- failed(r) -/
theorem k_X4_failed (l : Launch) (dC : Nat → ClassId) (dI : Nat → Nat → Nat) (o : Nat → Nat) (k : Nat → ClassId) (R C : Nat → Nat → Int32) (an : Nat → Int32) (n : Nat) (f : Nat → Int32) (d : Nat) (g : Nat → Int32) (p0 : Int32) : MetS l yX4_failed wsX4_failed ({ frames := 1, cells := 0, slots := 0, locals := 22 } : Room) (dC, dI) vwCl (wMs o k (R, C, n, f, d, g) an) (tyM k) [.ref (o 0), .int p0] (if okI p0 5 ∧ ¬ R p0.toNatClampNeg 2 = 0 then 1 else 0) := by
  refine MetS.of (cc := cX4_failed) (maxL := 2) (ret := (some .boolean)) (by decide) rfl (Nat.le_of_ble_eq_true rfl) rfl ?_
  intro p e s m below meth cd ls hx hb hr hlk hml hown hts hK hP hl
  have hl : lv_has ls 2 [(0, .ref (o 0)), (1, .int p0)] := hl
  refine lv_iload_n hx hb dX4_failed_0 rfl (lv_at hl 1 rfl) ?_
  refine lv_iconst (v := nI 0) hx hb dX4_failed_1 (by decide) ?_
  refine lv_iconst (v := nI 4) hx hb dX4_failed_2 (by decide) ?_
  refine goS (va_runS (rm := ({ frames := 0, cells := 0, slots := 0, locals := 0 } : Room)) (As := [.int p0, .int (nI 0), .int (nI 4)]) (rest := []) ⟨hx, hb, hml, hown, hts⟩ (MetS.at (k_X4_within l dC dI p0 (nI 0) (nI 4))) (va_cwS 3 hts gX4_failed_X4_within rfl rfl rfl (by decide +kernel) ⟨Nat.le_of_ble_eq_true rfl, Nat.le_of_ble_eq_true rfl⟩) (preSS (hK.sub [] rfl) va_P0) rfl rfl hl.1 rfl (lv_room (Nat.le_of_ble_eq_true rfl)) dX4_failed_3 ⟨Nat.le_of_ble_eq_true rfl, Nat.le_of_ble_eq_true rfl⟩) ?_
  refine lv_if_eq (tgt := 22) hx hb dX4_failed_6 (by decide) (fun c_6 => ?_) (fun c_6 => ?_)
  · have c_6 := it_no c_6
    have c_6 := mt (wi_s (x := p0) 4 (Nat.le_of_ble_eq_true rfl)).mpr c_6
    refine lv_iconst (v := nI 0) hx hb dX4_failed_22 (by decide) ?_
    exact retSz hx hb hr hlk dX4_failed_23 rfl (by rw [if_neg (fun q => c_6 q.1)]; rfl)
  · have c_6 := it_yes c_6
    have c_6 := (wi_s (x := p0) 4 (Nat.le_of_ble_eq_true rfl)).mp c_6
    obtain ⟨j, lt_j, rfl⟩ := okI_of c_6 (by omega)
    have e_j : (nI j).toNatClampNeg = j := nI_clamp (by omega)
    refine lv_aload_n hx hb dX4_failed_9 rfl (lv_at hl 0 rfl) ?_
    refine va_get (D := (dC, dI)) (ci := 4) (v := .ref (o 3)) (C := RX4) (T := TX4) (N := 16) hx hb hts inX4_failed_X4 hown hK hP (0) rfl rfl 2 (by decide) (hts _ lkX4_failed_16) (fun _ h9 => h9) rfl dX4_failed_10 ?_
    refine lv_iload_n hx hb dX4_failed_13 rfl (lv_at hl 1 rfl) ?_
    refine q_zald hx hb hK hP (3) 2 (j := j) rfl rfl lt_j (Nat.le_of_ble_eq_true rfl) dX4_failed_14 ?_
    refine lv_if_eq (tgt := 22) hx hb dX4_failed_15 (by decide) (fun c_15 => ?_) (fun c_15 => ?_)
    · refine lv_iconst (v := nI 0) hx hb dX4_failed_22 (by decide) ?_
      exact retSz hx hb hr hlk dX4_failed_23 rfl (by rw [if_neg (fun q => q.2 (by rw [e_j]; exact c_15))]; rfl)
    · refine lv_iconst (v := nI 1) hx hb dX4_failed_18 (by decide) ?_
      refine lv_goto (tgt := 23) hx hb dX4_failed_19 (by decide) ?_
      exact retSz hx hb hr hlk dX4_failed_23 rfl (by rw [if_pos ⟨c_6, by rw [e_j]; exact c_15⟩]; rfl)
theorem lkX4_message_50 : Cond.fieldLink RX4 50 "QuorumRegisterModel" "count" "I" ∈ wsX4_message := by decide +kernel
theorem inX4_message_X4 : ∀ w ∈ wsX40, w ∈ wsX4_message := by decide +kernel
theorem lkX4_message_44 : Cond.fieldLink RX4 44 "QuorumRegisterModel" "pool" "[I" ∈ wsX4_message := by decide +kernel
set_option maxHeartbeats 4000000 in
set_option maxRecDepth 100000 in
/-- X4_message -/
theorem k_X4_message (l : Launch) (dC : Nat → ClassId) (dI : Nat → Nat → Nat) (o : Nat → Nat) (k : Nat → ClassId) (R C : Nat → Nat → Int32) (an : Nat → Int32) (n : Nat) (f : Nat → Int32) (d : Nat) (g : Nat → Int32) (hn : n ≤ 77) (p0 p1 : Int32) : MetS l yX4_message wsX4_message ({ frames := 1, cells := 0, slots := 0, locals := 22 } : Room) (dC, dI) vwCl (wMs o k (R, C, n, f, d, g) an) (tyM k) [.ref (o 0), .int p0, .int p1] (if okI p0 n then (if okI p1 6 then f (p0.toNatClampNeg * 6 + p1.toNatClampNeg) else 0) else (-1)) := by
  refine MetS.of (cc := cX4_message) (maxL := 3) (ret := (some .int)) (by decide) rfl (Nat.le_of_ble_eq_true rfl) rfl ?_
  intro p e s m below meth cd ls hx hb hr hlk hml hown hts hK hP hl
  have hl : lv_has ls 3 [(0, .ref (o 0)), (1, .int p0), (2, .int p1)] := hl
  refine lv_iload_n hx hb dX4_message_0 rfl (lv_at hl 1 rfl) ?_
  refine lv_iconst (v := nI 0) hx hb dX4_message_1 (by decide) ?_
  refine lv_aload_n hx hb dX4_message_2 rfl (lv_at hl 0 rfl) ?_
  refine va_get (D := (dC, dI)) (ci := 4) (v := .int (nI n)) (C := RX4) (T := TX4) (N := 16) hx hb hts inX4_message_X4 hown hK hP (0) rfl rfl 13 (by decide) (hts _ lkX4_message_50) (fun _ h9 => h9) rfl dX4_message_3 ?_
  refine lv_iconst (v := nI 1) hx hb dX4_message_6 (by decide) ?_
  refine lv_isub hx hb dX4_message_7 ?_
  refine goS (va_runS (rm := ({ frames := 0, cells := 0, slots := 0, locals := 0 } : Room)) (As := [.int p0, .int (nI 0), .int ((nI n) - (nI 1))]) (rest := []) ⟨hx, hb, hml, hown, hts⟩ (MetS.at (k_X4_within l dC dI p0 (nI 0) ((nI n) - (nI 1)))) (va_cwS 3 hts gX4_message_X4_within rfl rfl rfl (by decide +kernel) ⟨Nat.le_of_ble_eq_true rfl, Nat.le_of_ble_eq_true rfl⟩) (preSS (hK.sub [] rfl) va_P0) rfl rfl hl.1 rfl (lv_room (Nat.le_of_ble_eq_true rfl)) dX4_message_8 ⟨Nat.le_of_ble_eq_true rfl, Nat.le_of_ble_eq_true rfl⟩) ?_
  refine lv_if_ne (tgt := 16) hx hb dX4_message_11 (by decide) (fun c_11 => ?_) (fun c_11 => ?_)
  · have c_11 := it_yes c_11
    have c_11 := (wi_n (x := p0) n (by omega)).mp c_11
    refine lv_iload_n hx hb dX4_message_16 rfl (lv_at hl 2 rfl) ?_
    refine lv_iconst (v := nI 0) hx hb dX4_message_17 (by decide) ?_
    refine lv_iconst (v := nI 5) hx hb dX4_message_18 (by decide) ?_
    refine goS (va_runS (rm := ({ frames := 0, cells := 0, slots := 0, locals := 0 } : Room)) (As := [.int p1, .int (nI 0), .int (nI 5)]) (rest := []) ⟨hx, hb, hml, hown, hts⟩ (MetS.at (k_X4_within l dC dI p1 (nI 0) (nI 5))) (va_cwS 3 hts gX4_message_X4_within rfl rfl rfl (by decide +kernel) ⟨Nat.le_of_ble_eq_true rfl, Nat.le_of_ble_eq_true rfl⟩) (preSS (hK.sub [] rfl) va_P0) rfl rfl hl.1 rfl (lv_room (Nat.le_of_ble_eq_true rfl)) dX4_message_19 ⟨Nat.le_of_ble_eq_true rfl, Nat.le_of_ble_eq_true rfl⟩) ?_
    refine lv_if_eq (tgt := 39) hx hb dX4_message_22 (by decide) (fun c_22 => ?_) (fun c_22 => ?_)
    · have c_22 := it_no c_22
      have c_22 := mt (wi_s (x := p1) 5 (Nat.le_of_ble_eq_true rfl)).mpr c_22
      refine lv_iconst (v := nI 0) hx hb dX4_message_39 (by decide) ?_
      exact retS hx hb hr hlk dX4_message_40 (by rw [if_pos c_11, if_neg c_22]; rfl)
    · have c_22 := it_yes c_22
      have c_22 := (wi_s (x := p1) 5 (Nat.le_of_ble_eq_true rfl)).mp c_22
      obtain ⟨i, lt_i, rfl⟩ := okI_of c_11 (by omega)
      obtain ⟨j, lt_j, rfl⟩ := okI_of c_22 (by omega)
      refine lv_aload_n hx hb dX4_message_25 rfl (lv_at hl 0 rfl) ?_
      refine va_get (D := (dC, dI)) (ci := 4) (v := .ref (o 12)) (C := RX4) (T := TX4) (N := 16) hx hb hts inX4_message_X4 hown hK hP (0) rfl rfl 12 (by decide) (hts _ lkX4_message_44) (fun _ h9 => h9) rfl dX4_message_26 ?_
      refine lv_bipush (v := nI 6) hx hb dX4_message_29 (by decide) ?_
      refine lv_iload_n hx hb dX4_message_31 rfl (lv_at hl 1 rfl) ?_
      refine lv_imul hx hb dX4_message_32 ?_
      refine qtop (y := nI (i * 6)) (mulc _ _) ?_
      refine lv_iload_n hx hb dX4_message_33 rfl (lv_at hl 2 rfl) ?_
      refine lv_iadd hx hb dX4_message_34 ?_
      refine qtop (y := nI ((i * 6) + j)) (nI_add _ _) ?_
      refine q_iald hx hb hK hP (12) 11 (j := (i * 6) + j) rfl rfl (by omega) (Nat.le_of_ble_eq_true rfl) dX4_message_35 ?_
      refine lv_goto (tgt := 40) hx hb dX4_message_36 (by decide) ?_
      exact retS hx hb hr hlk dX4_message_40 (by rw [if_pos c_11, if_pos c_22, nI_clamp (by omega), nI_clamp (by omega)])
  · have c_11 := it_no c_11
    have c_11 := mt (wi_n (x := p0) n (by omega)).mpr c_11
    refine lv_iconst (v := (-1)) hx hb dX4_message_14 (by decide) ?_
    exact retS hx hb hr hlk dX4_message_15 (by rw [if_neg c_11])
theorem lkX4_operation_78 : Cond.fieldLink RX4 78 "QuorumRegisterModel" "finished" "I" ∈ wsX4_operation := by decide +kernel
theorem inX4_operation_X4 : ∀ w ∈ wsX40, w ∈ wsX4_operation := by decide +kernel
theorem lkX4_operation_47 : Cond.fieldLink RX4 47 "QuorumRegisterModel" "done" "[I" ∈ wsX4_operation := by decide +kernel
set_option maxHeartbeats 4000000 in
set_option maxRecDepth 100000 in
/-- X4_operation -/
theorem k_X4_operation (l : Launch) (dC : Nat → ClassId) (dI : Nat → Nat → Nat) (o : Nat → Nat) (k : Nat → ClassId) (R C : Nat → Nat → Int32) (an : Nat → Int32) (n : Nat) (f : Nat → Int32) (d : Nat) (g : Nat → Int32) (hn : d ≤ 39) (p0 p1 : Int32) : MetS l yX4_operation wsX4_operation ({ frames := 1, cells := 0, slots := 0, locals := 22 } : Room) (dC, dI) vwCl (wMs o k (R, C, n, f, d, g) an) (tyM k) [.ref (o 0), .int p0, .int p1] (if okI p0 d then (if okI p1 5 then g (p0.toNatClampNeg * 5 + p1.toNatClampNeg) else 0) else (-1)) := by
  refine MetS.of (cc := cX4_operation) (maxL := 3) (ret := (some .int)) (by decide) rfl (Nat.le_of_ble_eq_true rfl) rfl ?_
  intro p e s m below meth cd ls hx hb hr hlk hml hown hts hK hP hl
  have hl : lv_has ls 3 [(0, .ref (o 0)), (1, .int p0), (2, .int p1)] := hl
  refine lv_iload_n hx hb dX4_operation_0 rfl (lv_at hl 1 rfl) ?_
  refine lv_iconst (v := nI 0) hx hb dX4_operation_1 (by decide) ?_
  refine lv_aload_n hx hb dX4_operation_2 rfl (lv_at hl 0 rfl) ?_
  refine va_get (D := (dC, dI)) (ci := 4) (v := .int (nI d)) (C := RX4) (T := TX4) (N := 16) hx hb hts inX4_operation_X4 hown hK hP (0) rfl rfl 15 (by decide) (hts _ lkX4_operation_78) (fun _ h9 => h9) rfl dX4_operation_3 ?_
  refine lv_iconst (v := nI 1) hx hb dX4_operation_6 (by decide) ?_
  refine lv_isub hx hb dX4_operation_7 ?_
  refine goS (va_runS (rm := ({ frames := 0, cells := 0, slots := 0, locals := 0 } : Room)) (As := [.int p0, .int (nI 0), .int ((nI d) - (nI 1))]) (rest := []) ⟨hx, hb, hml, hown, hts⟩ (MetS.at (k_X4_within l dC dI p0 (nI 0) ((nI d) - (nI 1)))) (va_cwS 3 hts gX4_operation_X4_within rfl rfl rfl (by decide +kernel) ⟨Nat.le_of_ble_eq_true rfl, Nat.le_of_ble_eq_true rfl⟩) (preSS (hK.sub [] rfl) va_P0) rfl rfl hl.1 rfl (lv_room (Nat.le_of_ble_eq_true rfl)) dX4_operation_8 ⟨Nat.le_of_ble_eq_true rfl, Nat.le_of_ble_eq_true rfl⟩) ?_
  refine lv_if_ne (tgt := 16) hx hb dX4_operation_11 (by decide) (fun c_11 => ?_) (fun c_11 => ?_)
  · have c_11 := it_yes c_11
    have c_11 := (wi_n (x := p0) d (by omega)).mp c_11
    refine lv_iload_n hx hb dX4_operation_16 rfl (lv_at hl 2 rfl) ?_
    refine lv_iconst (v := nI 0) hx hb dX4_operation_17 (by decide) ?_
    refine lv_iconst (v := nI 4) hx hb dX4_operation_18 (by decide) ?_
    refine goS (va_runS (rm := ({ frames := 0, cells := 0, slots := 0, locals := 0 } : Room)) (As := [.int p1, .int (nI 0), .int (nI 4)]) (rest := []) ⟨hx, hb, hml, hown, hts⟩ (MetS.at (k_X4_within l dC dI p1 (nI 0) (nI 4))) (va_cwS 3 hts gX4_operation_X4_within rfl rfl rfl (by decide +kernel) ⟨Nat.le_of_ble_eq_true rfl, Nat.le_of_ble_eq_true rfl⟩) (preSS (hK.sub [] rfl) va_P0) rfl rfl hl.1 rfl (lv_room (Nat.le_of_ble_eq_true rfl)) dX4_operation_19 ⟨Nat.le_of_ble_eq_true rfl, Nat.le_of_ble_eq_true rfl⟩) ?_
    refine lv_if_eq (tgt := 38) hx hb dX4_operation_22 (by decide) (fun c_22 => ?_) (fun c_22 => ?_)
    · have c_22 := it_no c_22
      have c_22 := mt (wi_s (x := p1) 4 (Nat.le_of_ble_eq_true rfl)).mpr c_22
      refine lv_iconst (v := nI 0) hx hb dX4_operation_38 (by decide) ?_
      exact retS hx hb hr hlk dX4_operation_39 (by rw [if_pos c_11, if_neg c_22]; rfl)
    · have c_22 := it_yes c_22
      have c_22 := (wi_s (x := p1) 4 (Nat.le_of_ble_eq_true rfl)).mp c_22
      obtain ⟨i, lt_i, rfl⟩ := okI_of c_11 (by omega)
      obtain ⟨j, lt_j, rfl⟩ := okI_of c_22 (by omega)
      refine lv_aload_n hx hb dX4_operation_25 rfl (lv_at hl 0 rfl) ?_
      refine va_get (D := (dC, dI)) (ci := 4) (v := .ref (o 13)) (C := RX4) (T := TX4) (N := 16) hx hb hts inX4_operation_X4 hown hK hP (0) rfl rfl 14 (by decide) (hts _ lkX4_operation_47) (fun _ h9 => h9) rfl dX4_operation_26 ?_
      refine lv_iconst (v := nI 5) hx hb dX4_operation_29 (by decide) ?_
      refine lv_iload_n hx hb dX4_operation_30 rfl (lv_at hl 1 rfl) ?_
      refine lv_imul hx hb dX4_operation_31 ?_
      refine qtop (y := nI (i * 5)) (mulc _ _) ?_
      refine lv_iload_n hx hb dX4_operation_32 rfl (lv_at hl 2 rfl) ?_
      refine lv_iadd hx hb dX4_operation_33 ?_
      refine qtop (y := nI ((i * 5) + j)) (nI_add _ _) ?_
      refine q_iald hx hb hK hP (13) 12 (j := (i * 5) + j) rfl rfl (by omega) (Nat.le_of_ble_eq_true rfl) dX4_operation_34 ?_
      refine lv_goto (tgt := 39) hx hb dX4_operation_35 (by decide) ?_
      exact retS hx hb hr hlk dX4_operation_39 (by rw [if_pos c_11, if_pos c_22, nI_clamp (by omega), nI_clamp (by omega)])
  · have c_11 := it_no c_11
    have c_11 := mt (wi_n (x := p0) d (by omega)).mpr c_11
    refine lv_iconst (v := (-1)) hx hb dX4_operation_14 (by decide) ?_
    exact retS hx hb hr hlk dX4_operation_15 (by rw [if_neg c_11])
