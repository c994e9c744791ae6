/-! the law: its loop, its entry -/
theorem wdL_cl7 : Cond.classLink RL 7 RX3 ∈ wsL_law := by decide +kernel
theorem wdL_cl10 : Cond.classLink RL 10 RX4 ∈ wsL_law := by decide +kernel
theorem wdL_iiX3 : Cond.initialized RX3 ∈ wsL_law := by decide +kernel
theorem wdL_iiX4 : Cond.initialized RX4 ∈ wsL_law := by decide +kernel
theorem wdL_ml9 : Cond.methodLink RL 9 yX3_init ∈ wsL_law := by decide +kernel
theorem wdL_ml12 : Cond.methodLink RL 12 yX4_init ∈ wsL_law := by decide +kernel
theorem wdL_imX3 : Cond.instanceMethod yX3_init ∈ wsL_law := by decide +kernel
theorem wdL_imX4 : Cond.instanceMethod yX4_init ∈ wsL_law := by decide +kernel
theorem wdL_inX0 : Cond.instantiable RX0 8 ∈ wsL_law := by decide +kernel
theorem wdL_inX1 : Cond.instantiable RX1 3 ∈ wsL_law := by decide +kernel
theorem wdL_inX2 : Cond.instantiable RX2 4 ∈ wsL_law := by decide +kernel
theorem wdL_inX3 : Cond.instantiable RX3 4 ∈ wsL_law := by decide +kernel
theorem wdL_inX4 : Cond.instantiable RX4 16 ∈ wsL_law := by decide +kernel
theorem wdL_n0 : Cond.arrayOver (.object "QuorumRegister$Replica") ∈ lw_tbl := List.mem_of_getElem? (i := 33) (by decide +kernel)
theorem wdL_n1 : Cond.arrayOver (.object "QuorumRegister$Client") ∈ lw_tbl := List.mem_of_getElem? (i := 50) (by decide +kernel)
theorem wdL_n2 : Cond.methodLinkNest RX3 15 yX1_init "QuorumRegister" ∈ lw_tbl := List.mem_of_getElem? (i := 35) (by decide +kernel)
theorem wdL_n3 : Cond.methodLinkNest RX3 22 yX0_init "QuorumRegister" ∈ lw_tbl := List.mem_of_getElem? (i := 52) (by decide +kernel)
set_option maxHeartbeats 4000000 in
set_option maxRecDepth 100000 in
theorem law_loop {p : Program} {l : Launch} {e : Env} {s : State} {m : MethodId} {below : List Frame} {meth : Method} {cd : Code} {dC : Nat → ClassId} {dI : Nat → Nat → Nat} {b L : Nat} {xs : Nat → Int32} {o : Nat → Nat} {k : Nat → ClassId} {o2 : Nat → Nat} {k2 : Nat → ClassId} (hL : L ≤ 1536) (C0 : lw_At p s m meth cd b L xs) (hK : va_K (dC, dI) vwCl (tyX k) s) (hKm : va_K (dC, dI) vwCl (tyM k2) s) :
    ∀ (t q : Nat), 3 * q ≤ L → L < 3 * q + 3 * t → ∀ (σ : St) (an : Nat → Int32) (H : Heap) (locs : List Loc) (ls : Array Slot), Inv σ an q → va_P (dC, dI) vwCl (wS o k σ ++ wMs o2 k2 σ an) H → va_D (fun q : Nat => s.heap.size ≤ q) (wS o k σ ++ wMs o2 k2 σ an) → va_S (fun q : Nat => s.heap.size ≤ q) s.heap H locs → lv_has ls 4 [(0, .ref b), (1, .ref (o 0)), (2, .ref (o2 0)), (3, .int (nI (3 * q)))] → LW p l e s m below meth cd b H locs (F0 m 18 ls []) := by
  obtain ⟨hx, hb, hr, hml, hown, hts0, hX, hbl, hlocks, hgv⟩ := C0
  have hts : ∀ w ∈ wsL_law, w.before #[Value.ref b] s = true := fun w h => hts0 w (wsL_law_in w h)
  have hA : ∀ q : Nat, s.heap.size ≤ q → (fun q : Nat => s.heap.size ≤ q) q := fun _ h => h
  have hbA : ¬ (fun q : Nat => s.heap.size ≤ q) b := Nat.not_le.mpr hbl
  intro t
  induction t with
  | zero =>
    intro q h1 h2
    exact absurd h2 (by omega)
  | succ t ih =>
    intro q h1 h2 σ an H locs ls hI hP hD hS hl
    unfold LW
    refine lv_iload_n hx hb dL_law_18 rfl (lv_at hl 3 rfl) ?_
    refine lv_aload_n hx hb dL_law_19 rfl (lv_at hl 0 rfl) ?_
    refine va_slen hx hb hX hbl hbA hS dL_law_20 ?_
    refine lv_iconst (v := nI 3) hx hb dL_law_21 (by decide) ?_
    refine lv_isub hx hb dL_law_22 ?_
    refine lv_icmp_gt (tgt := 496) hx hb dL_law_23 (by decide) (fun c_23 => ?_) (fun c_23 => ?_)
    · refine lv_iconst (v := 1) hx hb dL_law_496 (by decide) ?_
      refine va_forget (fun q hq => hS.2.2 q hq) ?_
      refine W.widen (k := 600000) (n := 7302250) (by decide) (by decide) ?_
      exact lw_ret hx hb hr hlocks dL_law_497
    · have hiL : 3 * q + 3 ≤ L := lp_in (by omega) (by omega) c_23
      refine lv_aload_n hx hb dL_law_26 rfl (lv_at hl 0 rfl) ?_
      refine lv_iload_n hx hb dL_law_27 rfl (lv_at hl 3 rfl) ?_
      refine q_sld hx hb hX hbl hbA hS (j := 3 * q) (by omega) (by omega) dL_law_28 ?_
      refine lv_bipush (v := nI 15) hx hb dL_law_29 (by decide) ?_
      refine lv_iand hx hb dL_law_31 ?_
      obtain ⟨j, hj, ej⟩ := pk_andE (xs (3 * q)) (m := nI 15) 4 (by decide)
      refine qtop (y := nI j) ej ?_
      have kk : LK p l e s m below meth cd b dC dI o k o2 k2 (3 * q) q := by
        intro σ an H locs ls hI hP hD hS hl
        unfold LW
        refine lv_iinc (v := nI (3 * (q + 1))) (lv' := [(3, .int (nI (3 * (q + 1)))), (0, .ref b), (1, .ref (o 0)), (2, .ref (o2 0))]) hx hb dL_law_490 hl (k := 3) rfl (nI_add (3 * q) 3) (by decide) rfl (fun ls hl => ?_)
        refine lv_goto (tgt := 18) hx hb dL_law_493 (by decide) ?_
        exact ih (q + 1) (by omega) (by omega) σ an H locs ls hI hP hD hS (lv_sub hl [1, 2, 3, 0] rfl)
      obtain ⟨R, C, n, f, d, g⟩ := σ
      have hq : q ≤ 511 := by omega
      rcases (show j = 0 ∨ j = 1 ∨ j = 2 ∨ j = 3 ∨ j = 4 ∨ j = 5 ∨ j = 6 ∨ j = 7 ∨ j = 8 ∨ j = 9 ∨ j = 10 ∨ j = 11 ∨ j = 12 ∨ j = 13 ∨ j = 14 ∨ j = 15 by omega) with rfl | rfl | rfl | rfl | rfl | rfl | rfl | rfl | rfl | rfl | rfl | rfl | rfl | rfl | rfl | rfl
      · refine lv_tableIn (off := 80) (tgt := 112) hx hb dL_law_32 (by decide +kernel) (by decide +kernel) (by decide +kernel) (by decide) ?_
        exact lc_0 hx hb hml hown hts hX hbl hK hKm hiL hL hq R C n f d g an hI H locs ls hP hD hS hl kk
      · refine lv_tableIn (off := 113) (tgt := 145) hx hb dL_law_32 (by decide +kernel) (by decide +kernel) (by decide +kernel) (by decide) ?_
        exact lc_1 hx hb hml hown hts hX hbl hK hKm hiL hL hq R C n f d g an hI H locs ls hP hD hS hl kk
      · refine lv_tableIn (off := 136) (tgt := 168) hx hb dL_law_32 (by decide +kernel) (by decide +kernel) (by decide +kernel) (by decide) ?_
        exact lc_2 hx hb hml hown hts hX hbl hK hKm hiL hL hq R C n f d g an hI H locs ls hP hD hS hl kk
      · refine lv_tableIn (off := 159) (tgt := 191) hx hb dL_law_32 (by decide +kernel) (by decide +kernel) (by decide +kernel) (by decide) ?_
        exact lc_3 hx hb hml hown hts hX hbl hK hKm hiL hL hq R C n f d g an hI H locs ls hP hD hS hl kk
      · refine lv_tableIn (off := 182) (tgt := 214) hx hb dL_law_32 (by decide +kernel) (by decide +kernel) (by decide +kernel) (by decide) ?_
        exact lc_4 hx hb hml hown hts hX hbl hK hKm hiL hL hq R C n f d g an hI H locs ls hP hD hS hl kk
      · refine lv_tableIn (off := 205) (tgt := 237) hx hb dL_law_32 (by decide +kernel) (by decide +kernel) (by decide +kernel) (by decide) ?_
        exact lc_5 hx hb hml hown hts hX hbl hK hKm hiL hL hq R C n f d g an hI H locs ls hP hD hS hl kk
      · refine lv_tableIn (off := 228) (tgt := 260) hx hb dL_law_32 (by decide +kernel) (by decide +kernel) (by decide +kernel) (by decide) ?_
        exact lc_6 hx hb hml hown hts hX hbl hK hKm hiL hL hq R C n f d g an hI H locs ls hP hD hS hl kk
      · refine lv_tableIn (off := 251) (tgt := 283) hx hb dL_law_32 (by decide +kernel) (by decide +kernel) (by decide +kernel) (by decide) ?_
        exact lc_7 hx hb hml hown hts hX hbl hK hKm hiL hL hq R C n f d g an hI H locs ls hP hD hS hl kk
      · refine lv_tableIn (off := 264) (tgt := 296) hx hb dL_law_32 (by decide +kernel) (by decide +kernel) (by decide +kernel) (by decide) ?_
        exact lc_8 hx hb hml hown hts hX hbl hK hKm hiL hL hq R C n f d g an hI H locs ls hP hD hS hl kk
      · refine lv_tableIn (off := 297) (tgt := 329) hx hb dL_law_32 (by decide +kernel) (by decide +kernel) (by decide +kernel) (by decide) ?_
        exact lc_9 hx hb hml hown hts hX hbl hK hKm hiL hL hq R C n f d g an hI H locs ls hP hD hS hl kk
      · refine lv_tableIn (off := 320) (tgt := 352) hx hb dL_law_32 (by decide +kernel) (by decide +kernel) (by decide +kernel) (by decide) ?_
        exact lc_10 hx hb hml hown hts hX hbl hK hKm hiL hL hq R C n f d g an hI H locs ls hP hD hS hl kk
      · refine lv_tableIn (off := 343) (tgt := 375) hx hb dL_law_32 (by decide +kernel) (by decide +kernel) (by decide +kernel) (by decide) ?_
        exact lc_11 hx hb hml hown hts hX hbl hK hKm hiL hL hq R C n f d g an hI H locs ls hP hD hS hl kk
      · refine lv_tableIn (off := 366) (tgt := 398) hx hb dL_law_32 (by decide +kernel) (by decide +kernel) (by decide +kernel) (by decide) ?_
        exact lc_12 hx hb hml hown hts hX hbl hK hKm hiL hL hq R C n f d g an hI H locs ls hP hD hS hl kk
      · refine lv_tableIn (off := 389) (tgt := 421) hx hb dL_law_32 (by decide +kernel) (by decide +kernel) (by decide +kernel) (by decide) ?_
        exact lc_13 hx hb hml hown hts hX hbl hK hKm hiL hL hq R C n f d g an hI H locs ls hP hD hS hl kk
      · refine lv_tableIn (off := 412) (tgt := 444) hx hb dL_law_32 (by decide +kernel) (by decide +kernel) (by decide +kernel) (by decide) ?_
        exact lc_14 hx hb hml hown hts hX hbl hK hKm hiL hL hq R C n f d g an hI H locs ls hP hD hS hl kk
      · refine lv_tableIn (off := 425) (tgt := 457) hx hb dL_law_32 (by decide +kernel) (by decide +kernel) (by decide +kernel) (by decide) ?_
        exact lc_15 hx hb hml hown hts hX hbl hK hKm hiL hL hq R C n f d g an hI H locs ls hP hD hS hl kk
set_option maxHeartbeats 4000000 in
set_option maxRecDepth 100000 in
/-- THE LAW, from its entry -/
theorem whole_start {p : Program} {e : Env} {s : State} {m : MethodId} {below : List Frame} {meth : Method} {c : Code} (l : Launch) {b L : Nat} {xs : Nat → Int32} (hL : L ≤ 1536) (C0 : lw_At p s m meth c b L xs) : W p l e room_1 s m #[Value.ref b] below meth c s.heap [] 0 0 (lw_Z below #[Value.ref b] s) (entryFrame m ([Value.ref b] : List Value).toArray 4) := by
  obtain ⟨hx, hb, hr, hml, hown, hts0, hX, hbl, hlocks, hgv⟩ := id C0
  have hts : ∀ w ∈ wsL_law, w.before #[Value.ref b] s = true := fun w h => hts0 w (wsL_law_in w h)
  have hA : ∀ q : Nat, s.heap.size ≤ q → (fun q : Nat => s.heap.size ≤ q) q := fun _ h => h
  have hbA : ¬ (fun q : Nat => s.heap.size ≤ q) b := Nat.not_le.mpr hbl
  obtain ⟨c0, iS0, hKn0⟩ := u_known (C := RX0) (T := TX0) (N := 8) (n := 8) hts0 inX0 (hts _ wdL_inX0)
  obtain ⟨c1, iS1, hKn1⟩ := u_known (C := RX1) (T := TX1) (N := 3) (n := 3) hts0 inX1 (hts _ wdL_inX1)
  obtain ⟨c2, iS2, hKn2⟩ := u_known (C := RX2) (T := TX2) (N := 4) (n := 4) hts0 inX2 (hts _ wdL_inX2)
  obtain ⟨c3, iS3, hKn3⟩ := u_known (C := RX3) (T := TX3) (N := 4) (n := 4) hts0 inX3 (hts _ wdL_inX3)
  obtain ⟨c4, iS4, hKn4⟩ := u_known (C := RX4) (T := TX4) (N := 16) (n := 16) hts0 inX4 (hts _ wdL_inX4)
  obtain ⟨dC, dI, hKc⟩ : ∃ (dC : Nat → ClassId) (dI : Nat → Nat → Nat), ∀ (k : Nat) (q : vw_C), vwCl[k]? = some q → u_Kn s q.1 q.2.1 q.2.2 (dC k) (dI k) := by
    refine ⟨fun k => if k = 0 then c0 else if k = 1 then c1 else if k = 2 then c2 else if k = 3 then c3 else c4, fun k => if k = 0 then iS0 else if k = 1 then iS1 else if k = 2 then iS2 else if k = 3 then iS3 else iS4, ?_⟩
    intro k q hq
    match k, hq with
    | 0, hq => cases hq; exact hKn0
    | 1, hq => cases hq; exact hKn1
    | 2, hq => cases hq; exact hKn2
    | 3, hq => cases hq; exact hKn3
    | 4, hq => cases hq; exact hKn4
    | k + 5, hq => simp [vwCl] at hq
  have hS : va_S (fun q : Nat => s.heap.size ≤ q) s.heap s.heap [] := va_S.rf
  have hK : va_K (dC, dI) vwCl [] s := ⟨hKc, fun k q h => by simp at h⟩
  have hP : va_P (dC, dI) vwCl [] s.heap := fun k q h => by simp at h
  have hD : va_D (fun q : Nat => s.heap.size ≤ q) [] := ⟨fun i j p q h => by simp at h, fun k q h => by simp at h⟩
  have hl := lv_entry ([.ref b]) (n := 4) (Nat.le_of_ble_eq_true rfl)
  rw [lg_entry_eq]
  generalize (lg_sl ([.ref b]) ++ List.replicate (4 - (lg_sl ([.ref b])).length) Slot.unset).toArray = ls at hl ⊢
  have hl : lv_has ls 4 [(0, .ref b)] := hl
  have hN : (fun U => va_AO "QuorumRegister$Replica" U ∧ va_AO "QuorumRegister$Client" U ∧ va_Nw (.methodLinkNest RX3 15 yX1_init "QuorumRegister") U ∧ va_Nw (.methodLinkNest RX3 22 yX0_init "QuorumRegister") U) s := ⟨va_AO.of (hts0 _ wdL_n0), va_AO.of (hts0 _ wdL_n1), va_Nw.of rfl (hts0 _ wdL_n2), va_Nw.of rfl (hts0 _ wdL_n3)⟩
  refine va_new (ci := 3) (fs := [.null, .null, .null, .null]) (C := RX3) (T := TX3) (N := 4) hx hb hts0 inX3 tyX3 tyX3_ok hown (hts _ wdL_cl7) (hts _ wdL_inX3) (hts _ wdL_iiX3) hK hP hD hS hA rfl (fun j hj => by rcases (show j = 0 ∨ j = 1 ∨ j = 2 ∨ j = 3 by omega) with rfl | rfl | rfl | rfl <;> rfl) (Nat.le_of_ble_eq_true rfl) (Nat.le_of_ble_eq_true rfl) dL_law_0 (fun q1 H hP hD hS => ?_)
  have hP : va_P (dC, dI) vwCl ([] ++ [(q1, .inr (3, [.null, .null, .null, .null]))]) H := hP
  have hD : va_D (fun q : Nat => s.heap.size ≤ q) ([] ++ [(q1, .inr (3, [.null, .null, .null, .null]))]) := hD
  refine lv_dup hx hb dL_law_3 rfl ?_
  refine goN (ws := []) (q := q1) hP hD hK hS hA (va_runI (rm := ({ frames := 2, cells := 14, slots := 712, locals := 46 } : Room)) (As := []) (rest := [.ref q1]) ⟨hx, hb, hml, hown, hts⟩ (MetN.at (k_X3_init l dC dI q1) H.size) (cwI 0 hts gL_law_X3_init rfl rfl rfl (hts _ wdL_iiX3) (hts _ wdL_ml9) (hts _ wdL_imX3) rfl (by decide +kernel) ⟨Nat.le_of_ble_eq_true rfl, Nat.le_of_ble_eq_true rfl⟩) (preNS (fun U g mk a h => ⟨va_AO.moved (u := U) (U := U.calling g mk a) (Vm.Alike.refl U.vm) h.1, va_AO.moved (u := U) (U := U.calling g mk a) (Vm.Alike.refl U.vm) h.2.1, va_Nw.same rfl rfl h.2.2.1, va_Nw.same rfl rfl h.2.2.2⟩) (fun U hW => ⟨va_AO.moved hW.alike hN.1, va_AO.moved hW.alike hN.2.1, va_Nw.warmM hW hN.2.2.1, va_Nw.warmM hW hN.2.2.2⟩) (show va_K (dC, dI) vwCl [] s from hK.sub [] rfl) hP hD) rfl rfl hl.1 rfl (lv_room (Nat.le_of_ble_eq_true rfl)) dL_law_4 ⟨Nat.le_of_ble_eq_true rfl, Nat.le_of_ble_eq_true rfl⟩) (fun u1 H locs hP hD hK hS => ?_)
  obtain ⟨ox, kx⟩ := u1
  generalize eo : oo q1 ox = o at hP hD
  have e1 : q1 = o 0 := by rw [← eo]; rfl
  have hP : va_P (dC, dI) vwCl (wX o kx (fun _ _ => 0) (fun _ _ => 0) 0 (fun _ => 0) 0 (fun _ => 0)) H := hP
  have hD : va_D (fun q : Nat => s.heap.size ≤ q) (wX o kx (fun _ _ => 0) (fun _ _ => 0) 0 (fun _ => 0) 0 (fun _ => 0)) := hD
  have hK : va_K (dC, dI) vwCl (tyX kx) s := hK
  refine lv_astore_n (lv' := [(1, .ref q1), (0, .ref b)]) hx hb dL_law_7 rfl hl (by decide) rfl (fun ls hl => ?_)
  refine va_new (ci := 4) (fs := [.null, .null, .null, .int 0, .null, .null, .null, .null, .null, .null, .null, .null, .null, .int 0, .null, .int 0]) (C := RX4) (T := TX4) (N := 16) hx hb hts0 inX4 tyX4 tyX4_ok hown (hts _ wdL_cl10) (hts _ wdL_inX4) (hts _ wdL_iiX4) hK hP hD hS hA rfl (fun j hj => by rcases (show j = 0 ∨ j = 1 ∨ j = 2 ∨ j = 3 ∨ j = 4 ∨ j = 5 ∨ j = 6 ∨ j = 7 ∨ j = 8 ∨ j = 9 ∨ j = 10 ∨ j = 11 ∨ j = 12 ∨ j = 13 ∨ j = 14 ∨ j = 15 by omega) with rfl | rfl | rfl | rfl | rfl | rfl | rfl | rfl | rfl | rfl | rfl | rfl | rfl | rfl | rfl | rfl <;> rfl) (Nat.le_of_ble_eq_true rfl) (Nat.le_of_ble_eq_true rfl) dL_law_8 (fun q2 H hP hD hS => ?_)
  refine lv_dup hx hb dL_law_11 rfl ?_
  refine goN (ws := wX o kx (fun _ _ => 0) (fun _ _ => 0) 0 (fun _ => 0) 0 (fun _ => 0)) (q := q2) hP hD hK hS hA (va_runI (rm := ({ frames := 1, cells := 13, slots := 3199, locals := 12 } : Room)) (As := []) (rest := [.ref q2]) ⟨hx, hb, hml, hown, hts⟩ (MetN.at (k_X4_init l dC dI q2) H.size) (cwI 0 hts gL_law_X4_init rfl rfl rfl (hts _ wdL_iiX4) (hts _ wdL_ml12) (hts _ wdL_imX4) rfl (by decide +kernel) ⟨Nat.le_of_ble_eq_true rfl, Nat.le_of_ble_eq_true rfl⟩) (preNS (fun _ _ _ _ _ => trivial) (fun _ _ => trivial) (show va_K (dC, dI) vwCl [] s from hK.sub [] rfl) (va_PR hP) (va_DR hD)) rfl rfl hl.1 rfl (lv_room (Nat.le_of_ble_eq_true rfl)) dL_law_12 ⟨Nat.le_of_ble_eq_true rfl, Nat.le_of_ble_eq_true rfl⟩) (fun u2 H locs hP hD hK hS => ?_)
  obtain ⟨om, km⟩ := u2
  generalize eo2 : oo q2 om = o2 at hP hD
  have e2 : q2 = o2 0 := by rw [← eo2]; rfl
  have hKx : va_K (dC, dI) vwCl (tyX kx) s := hK.sub [0, 1, 2, 3] rfl
  have hKm : va_K (dC, dI) vwCl (tyM km) s := hK.sub [4, 5, 6, 7, 8, 9, 10, 11, 12, 13, 14, 15, 16] rfl
  refine lv_astore_n (lv' := [(2, .ref q2), (1, .ref q1), (0, .ref b)]) hx hb dL_law_15 rfl hl (by decide) rfl (fun ls hl => ?_)
  refine lv_iconst (v := nI 0) hx hb dL_law_16 (by decide) ?_
  refine lv_istore_n (lv' := [(3, .int (nI 0)), (2, .ref q2), (1, .ref q1), (0, .ref b)]) hx hb dL_law_17 rfl hl (by decide) rfl (fun ls hl => ?_)
  have hP9 := hP
  have hD9 := hD
  have hS9 := hS
  have hl9 := hl
  subst e1
  subst e2
  refine W.widen (k := 29) (n := 3931) (by decide) (by decide) ?_
  exact law_loop hL C0 hKx hKm (L + 1) 0 (Nat.zero_le _) (by omega) ((fun _ _ => 0), (fun _ _ => 0), 0, (fun _ => 0), 0, (fun _ => 0)) (fun _ => 0) _ _ _ inv_start hP9 hD9 hS9 (lv_sub hl9 [3, 2, 1, 0] rfl)
