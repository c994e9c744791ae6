/-! the law: a case a call -/
set_option maxHeartbeats 4000000 in
set_option maxRecDepth 100000 in
theorem lc_0 {p : Program} {l : Launch} {e : Env} {s : State} {m : MethodId} {below : List Frame} {meth : Method} {cd : Code} {dC : Nat → ClassId} {dI : Nat → Nat → Nat} {b L : Nat} {xs : Nat → Int32} {o : Nat → Nat} {k : Nat → ClassId} {o2 : Nat → Nat} {k2 : Nat → ClassId} {i q : Nat} (hx : p.tables.exec = Jvm.exec) (hb : cd.code = code) (hml : cd.maxLocals = 4) (hown : s.vm.findClass RL = some m.cls) (hts : ∀ w ∈ wsL_law, w.before #[Value.ref b] s = true) (hX : va_X b L xs s s.heap) (hbl : b < s.heap.size) (hK : va_K (dC, dI) vwCl (tyX k) s) (hKm : va_K (dC, dI) vwCl (tyM k2) s) (hiL : i + 3 ≤ L) (hL : L ≤ 1536) (hq : q ≤ 511) (R C : Nat → Nat → Int32) (n : Nat) (f : Nat → Int32) (d : Nat) (g an : Nat → Int32) (hI : Inv (R, C, n, f, d, g) an q) (H : Heap) (locs : List Loc) (ls : Array Slot) (hP : va_P (dC, dI) vwCl (wX o k R C n f d g ++ wMs o2 k2 (R, C, n, f, d, g) an) H) (hD : va_D (fun q : Nat => s.heap.size ≤ q) (wX o k R C n f d g ++ wMs o2 k2 (R, C, n, f, d, g) an)) (hS : va_S (fun q : Nat => s.heap.size ≤ q) s.heap H locs) (hl : lv_has ls 4 [(0, .ref b), (1, .ref (o 0)), (2, .ref (o2 0)), (3, .int (nI i))]) (kk : LK p l e s m below meth cd b dC dI o k o2 k2 i q) : LW p l e s m below meth cd b H locs (F0 m 112 ls []) := by
  have hA : ∀ q : Nat, s.heap.size ≤ q → (fun q : Nat => s.heap.size ≤ q) q := fun _ h => h
  have hbA : ¬ (fun q : Nat => s.heap.size ≤ q) b := Nat.not_le.mpr hbl
  have hn := inv_n hI
  have hm := inv_m hI
  have ha := inv_a hI
  have hroom := inv_room hI
  have hdn := inv_dn hI hq
  have hd := inv_d hI hq
  have hAn := inv_an hI
  have hfl := inv_fl hI
  unfold LW
  refine lv_aload_n hx hb dL_law_112 rfl (lv_at hl 1 rfl) ?_
  refine lv_aload_n hx hb dL_law_113 rfl (lv_at hl 0 rfl) ?_
  refine lv_iload_n hx hb dL_law_114 rfl (lv_at hl 3 rfl) ?_
  refine lv_iconst (v := nI 1) hx hb dL_law_115 (by decide) ?_
  refine lv_iadd hx hb dL_law_116 ?_
  refine qtop (y := nI (i + 1)) (nI_add _ _) ?_
  refine q_sld hx hb hX hbl hbA hS (j := i + 1) (by omega) (by omega) dL_law_117 ?_
  refine lv_aload_n hx hb dL_law_118 rfl (lv_at hl 0 rfl) ?_
  refine lv_iload_n hx hb dL_law_119 rfl (lv_at hl 3 rfl) ?_
  refine lv_iconst (v := nI 2) hx hb dL_law_120 (by decide) ?_
  refine lv_iadd hx hb dL_law_121 ?_
  refine qtop (y := nI (i + 2)) (nI_add _ _) ?_
  refine q_sld hx hb hX hbl hbA hS (j := i + 2) (by omega) (by omega) dL_law_122 ?_
  refine goI (ws := (wX o k R C n f d g ++ wMs o2 k2 (R, C, n, f, d, g) an)) (ws' := (wS o k (bgS (R, C, n, f, d, g) (xs (i + 1)) (nI 1) (xs (i + 2))) ++ wMs o2 k2 (R, C, n, f, d, g) an)) (qFitL hD rfl) hP hD hS hA (va_runV (rm := ({ frames := 5, cells := 0, slots := 0, locals := 120 } : Room)) (As := [.int (xs (i + 1)), .int (xs (i + 2))]) (rest := []) ⟨hx, hb, hml, hown, hts⟩ (MetI.at (k_X3_write l dC dI o k R C n f d g hn (xs (i + 1)) (xs (i + 2))) H.size) (cwV 2 hts gL_law_X3_write rfl rfl rfl (by decide +kernel) ⟨Nat.le_of_ble_eq_true rfl, Nat.le_of_ble_eq_true rfl⟩) (preWV hK (va_PL hP) (va_DL hD) (va_recv hK hP (ci := 3) (q0 := 0) rfl rfl)) rfl rfl hl.1 rfl (lv_room (Nat.le_of_ble_eq_true rfl)) dL_law_123 ⟨Nat.le_of_ble_eq_true rfl, Nat.le_of_ble_eq_true rfl⟩) (fun H locs hP hD hS => ?_)
  refine lv_aload_n hx hb dL_law_126 rfl (lv_at hl 2 rfl) ?_
  refine lv_aload_n hx hb dL_law_127 rfl (lv_at hl 0 rfl) ?_
  refine lv_iload_n hx hb dL_law_128 rfl (lv_at hl 3 rfl) ?_
  refine lv_iconst (v := nI 1) hx hb dL_law_129 (by decide) ?_
  refine lv_iadd hx hb dL_law_130 ?_
  refine qtop (y := nI (i + 1)) (nI_add _ _) ?_
  refine q_sld hx hb hX hbl hbA hS (j := i + 1) (by omega) (by omega) dL_law_131 ?_
  refine lv_aload_n hx hb dL_law_132 rfl (lv_at hl 0 rfl) ?_
  refine lv_iload_n hx hb dL_law_133 rfl (lv_at hl 3 rfl) ?_
  refine lv_iconst (v := nI 2) hx hb dL_law_134 (by decide) ?_
  refine lv_iadd hx hb dL_law_135 ?_
  refine qtop (y := nI (i + 2)) (nI_add _ _) ?_
  refine q_sld hx hb hX hbl hbA hS (j := i + 2) (by omega) (by omega) dL_law_136 ?_
  refine goI (ws := (wS o k (bgS (R, C, n, f, d, g) (xs (i + 1)) (nI 1) (xs (i + 2))) ++ wMs o2 k2 (R, C, n, f, d, g) an)) (ws' := (wS o k (bgS (R, C, n, f, d, g) (xs (i + 1)) (nI 1) (xs (i + 2))) ++ wMs o2 k2 (bgS (R, C, n, f, d, g) (xs (i + 1)) (nI 1) (xs (i + 2))) (bgA (R, C, n, f, d, g) an (xs (i + 1))))) (qFitR hD rfl) hP hD hS hA (va_runV (rm := ({ frames := 3, cells := 0, slots := 0, locals := 75 } : Room)) (As := [.int (xs (i + 1)), .int (xs (i + 2))]) (rest := [.int (bgX C n (xs (i + 1)))]) ⟨hx, hb, hml, hown, hts⟩ (MetI.at (k_X4_write l dC dI o2 k2 R C an n f d g hn (xs (i + 1)) (xs (i + 2))) H.size) (cwV 2 hts gL_law_X4_write rfl rfl rfl (by decide +kernel) ⟨Nat.le_of_ble_eq_true rfl, Nat.le_of_ble_eq_true rfl⟩) (preWV hKm (va_PR hP) (va_DR hD) (va_recv hK hP (ci := 4) (q0 := 15) rfl rfl)) rfl rfl hl.1 rfl (lv_room (Nat.le_of_ble_eq_true rfl)) dL_law_137 ⟨Nat.le_of_ble_eq_true rfl, Nat.le_of_ble_eq_true rfl⟩) (fun H locs hP hD hS => ?_)
  refine lv_icmp_eq (tgt := 490) hx hb dL_law_140 (by decide) (fun c_140 => ?_) (fun c_140 => ?_)
  · exact kk (bgS (R, C, n, f, d, g) (xs (i + 1)) (nI 1) (xs (i + 2))) (bgA (R, C, n, f, d, g) an (xs (i + 1))) H locs ls (inv_begin hI) hP hD hS (lv_sub hl [0, 1, 2, 3] rfl)
  · exact absurd rfl c_140
set_option maxHeartbeats 4000000 in
set_option maxRecDepth 100000 in
theorem lc_1 {p : Program} {l : Launch} {e : Env} {s : State} {m : MethodId} {below : List Frame} {meth : Method} {cd : Code} {dC : Nat → ClassId} {dI : Nat → Nat → Nat} {b L : Nat} {xs : Nat → Int32} {o : Nat → Nat} {k : Nat → ClassId} {o2 : Nat → Nat} {k2 : Nat → ClassId} {i q : Nat} (hx : p.tables.exec = Jvm.exec) (hb : cd.code = code) (hml : cd.maxLocals = 4) (hown : s.vm.findClass RL = some m.cls) (hts : ∀ w ∈ wsL_law, w.before #[Value.ref b] s = true) (hX : va_X b L xs s s.heap) (hbl : b < s.heap.size) (hK : va_K (dC, dI) vwCl (tyX k) s) (hKm : va_K (dC, dI) vwCl (tyM k2) s) (hiL : i + 3 ≤ L) (hL : L ≤ 1536) (hq : q ≤ 511) (R C : Nat → Nat → Int32) (n : Nat) (f : Nat → Int32) (d : Nat) (g an : Nat → Int32) (hI : Inv (R, C, n, f, d, g) an q) (H : Heap) (locs : List Loc) (ls : Array Slot) (hP : va_P (dC, dI) vwCl (wX o k R C n f d g ++ wMs o2 k2 (R, C, n, f, d, g) an) H) (hD : va_D (fun q : Nat => s.heap.size ≤ q) (wX o k R C n f d g ++ wMs o2 k2 (R, C, n, f, d, g) an)) (hS : va_S (fun q : Nat => s.heap.size ≤ q) s.heap H locs) (hl : lv_has ls 4 [(0, .ref b), (1, .ref (o 0)), (2, .ref (o2 0)), (3, .int (nI i))]) (kk : LK p l e s m below meth cd b dC dI o k o2 k2 i q) : LW p l e s m below meth cd b H locs (F0 m 145 ls []) := by
  have hA : ∀ q : Nat, s.heap.size ≤ q → (fun q : Nat => s.heap.size ≤ q) q := fun _ h => h
  have hbA : ¬ (fun q : Nat => s.heap.size ≤ q) b := Nat.not_le.mpr hbl
  have hn := inv_n hI
  have hm := inv_m hI
  have ha := inv_a hI
  have hroom := inv_room hI
  have hdn := inv_dn hI hq
  have hd := inv_d hI hq
  have hAn := inv_an hI
  have hfl := inv_fl hI
  unfold LW
  refine lv_aload_n hx hb dL_law_145 rfl (lv_at hl 1 rfl) ?_
  refine lv_aload_n hx hb dL_law_146 rfl (lv_at hl 0 rfl) ?_
  refine lv_iload_n hx hb dL_law_147 rfl (lv_at hl 3 rfl) ?_
  refine lv_iconst (v := nI 1) hx hb dL_law_148 (by decide) ?_
  refine lv_iadd hx hb dL_law_149 ?_
  refine qtop (y := nI (i + 1)) (nI_add _ _) ?_
  refine q_sld hx hb hX hbl hbA hS (j := i + 1) (by omega) (by omega) dL_law_150 ?_
  refine goI (ws := (wX o k R C n f d g ++ wMs o2 k2 (R, C, n, f, d, g) an)) (ws' := (wS o k (bgS (R, C, n, f, d, g) (xs (i + 1)) (nI 0) (nI 0)) ++ wMs o2 k2 (R, C, n, f, d, g) an)) (qFitL hD rfl) hP hD hS hA (va_runV (rm := ({ frames := 5, cells := 0, slots := 0, locals := 120 } : Room)) (As := [.int (xs (i + 1))]) (rest := []) ⟨hx, hb, hml, hown, hts⟩ (MetI.at (k_X3_read l dC dI o k R C n f d g hn (xs (i + 1))) H.size) (cwV 1 hts gL_law_X3_read rfl rfl rfl (by decide +kernel) ⟨Nat.le_of_ble_eq_true rfl, Nat.le_of_ble_eq_true rfl⟩) (preWV hK (va_PL hP) (va_DL hD) (va_recv hK hP (ci := 3) (q0 := 0) rfl rfl)) rfl rfl hl.1 rfl (lv_room (Nat.le_of_ble_eq_true rfl)) dL_law_151 ⟨Nat.le_of_ble_eq_true rfl, Nat.le_of_ble_eq_true rfl⟩) (fun H locs hP hD hS => ?_)
  refine lv_aload_n hx hb dL_law_154 rfl (lv_at hl 2 rfl) ?_
  refine lv_aload_n hx hb dL_law_155 rfl (lv_at hl 0 rfl) ?_
  refine lv_iload_n hx hb dL_law_156 rfl (lv_at hl 3 rfl) ?_
  refine lv_iconst (v := nI 1) hx hb dL_law_157 (by decide) ?_
  refine lv_iadd hx hb dL_law_158 ?_
  refine qtop (y := nI (i + 1)) (nI_add _ _) ?_
  refine q_sld hx hb hX hbl hbA hS (j := i + 1) (by omega) (by omega) dL_law_159 ?_
  refine goI (ws := (wS o k (bgS (R, C, n, f, d, g) (xs (i + 1)) (nI 0) (nI 0)) ++ wMs o2 k2 (R, C, n, f, d, g) an)) (ws' := (wS o k (bgS (R, C, n, f, d, g) (xs (i + 1)) (nI 0) (nI 0)) ++ wMs o2 k2 (bgS (R, C, n, f, d, g) (xs (i + 1)) (nI 0) (nI 0)) (bgA (R, C, n, f, d, g) an (xs (i + 1))))) (qFitR hD rfl) hP hD hS hA (va_runV (rm := ({ frames := 3, cells := 0, slots := 0, locals := 75 } : Room)) (As := [.int (xs (i + 1))]) (rest := [.int (bgX C n (xs (i + 1)))]) ⟨hx, hb, hml, hown, hts⟩ (MetI.at (k_X4_read l dC dI o2 k2 R C an n f d g hn (xs (i + 1))) H.size) (cwV 1 hts gL_law_X4_read rfl rfl rfl (by decide +kernel) ⟨Nat.le_of_ble_eq_true rfl, Nat.le_of_ble_eq_true rfl⟩) (preWV hKm (va_PR hP) (va_DR hD) (va_recv hK hP (ci := 4) (q0 := 15) rfl rfl)) rfl rfl hl.1 rfl (lv_room (Nat.le_of_ble_eq_true rfl)) dL_law_160 ⟨Nat.le_of_ble_eq_true rfl, Nat.le_of_ble_eq_true rfl⟩) (fun H locs hP hD hS => ?_)
  refine lv_icmp_eq (tgt := 490) hx hb dL_law_163 (by decide) (fun c_163 => ?_) (fun c_163 => ?_)
  · exact kk (bgS (R, C, n, f, d, g) (xs (i + 1)) (nI 0) (nI 0)) (bgA (R, C, n, f, d, g) an (xs (i + 1))) H locs ls (inv_begin hI) hP hD hS (lv_sub hl [0, 1, 2, 3] rfl)
  · exact absurd rfl c_163
set_option maxHeartbeats 4000000 in
set_option maxRecDepth 100000 in
theorem lc_2 {p : Program} {l : Launch} {e : Env} {s : State} {m : MethodId} {below : List Frame} {meth : Method} {cd : Code} {dC : Nat → ClassId} {dI : Nat → Nat → Nat} {b L : Nat} {xs : Nat → Int32} {o : Nat → Nat} {k : Nat → ClassId} {o2 : Nat → Nat} {k2 : Nat → ClassId} {i q : Nat} (hx : p.tables.exec = Jvm.exec) (hb : cd.code = code) (hml : cd.maxLocals = 4) (hown : s.vm.findClass RL = some m.cls) (hts : ∀ w ∈ wsL_law, w.before #[Value.ref b] s = true) (hX : va_X b L xs s s.heap) (hbl : b < s.heap.size) (hK : va_K (dC, dI) vwCl (tyX k) s) (hKm : va_K (dC, dI) vwCl (tyM k2) s) (hiL : i + 3 ≤ L) (hL : L ≤ 1536) (hq : q ≤ 511) (R C : Nat → Nat → Int32) (n : Nat) (f : Nat → Int32) (d : Nat) (g an : Nat → Int32) (hI : Inv (R, C, n, f, d, g) an q) (H : Heap) (locs : List Loc) (ls : Array Slot) (hP : va_P (dC, dI) vwCl (wX o k R C n f d g ++ wMs o2 k2 (R, C, n, f, d, g) an) H) (hD : va_D (fun q : Nat => s.heap.size ≤ q) (wX o k R C n f d g ++ wMs o2 k2 (R, C, n, f, d, g) an)) (hS : va_S (fun q : Nat => s.heap.size ≤ q) s.heap H locs) (hl : lv_has ls 4 [(0, .ref b), (1, .ref (o 0)), (2, .ref (o2 0)), (3, .int (nI i))]) (kk : LK p l e s m below meth cd b dC dI o k o2 k2 i q) : LW p l e s m below meth cd b H locs (F0 m 168 ls []) := by
  have hA : ∀ q : Nat, s.heap.size ≤ q → (fun q : Nat => s.heap.size ≤ q) q := fun _ h => h
  have hbA : ¬ (fun q : Nat => s.heap.size ≤ q) b := Nat.not_le.mpr hbl
  have hn := inv_n hI
  have hm := inv_m hI
  have ha := inv_a hI
  have hroom := inv_room hI
  have hdn := inv_dn hI hq
  have hd := inv_d hI hq
  have hAn := inv_an hI
  have hfl := inv_fl hI
  unfold LW
  refine lv_aload_n hx hb dL_law_168 rfl (lv_at hl 1 rfl) ?_
  refine lv_aload_n hx hb dL_law_169 rfl (lv_at hl 0 rfl) ?_
  refine lv_iload_n hx hb dL_law_170 rfl (lv_at hl 3 rfl) ?_
  refine lv_iconst (v := nI 1) hx hb dL_law_171 (by decide) ?_
  refine lv_iadd hx hb dL_law_172 ?_
  refine qtop (y := nI (i + 1)) (nI_add _ _) ?_
  refine q_sld hx hb hX hbl hbA hS (j := i + 1) (by omega) (by omega) dL_law_173 ?_
  refine goI (ws := (wX o k R C n f d g ++ wMs o2 k2 (R, C, n, f, d, g) an)) (ws' := (wS o k (lvS (R, C, n, f, d, g) (xs (i + 1))) ++ wMs o2 k2 (R, C, n, f, d, g) an)) (qFitL hD rfl) hP hD hS hA (va_runV (rm := ({ frames := 1, cells := 0, slots := 0, locals := 21 } : Room)) (As := [.int (xs (i + 1))]) (rest := []) ⟨hx, hb, hml, hown, hts⟩ (MetI.at (k_X3_leave l dC dI o k R C n f d g (xs (i + 1))) H.size) (cwV 1 hts gL_law_X3_leave rfl rfl rfl (by decide +kernel) ⟨Nat.le_of_ble_eq_true rfl, Nat.le_of_ble_eq_true rfl⟩) (preWV hK (va_PL hP) (va_DL hD) (va_recv hK hP (ci := 3) (q0 := 0) rfl rfl)) rfl rfl hl.1 rfl (lv_room (Nat.le_of_ble_eq_true rfl)) dL_law_174 ⟨Nat.le_of_ble_eq_true rfl, Nat.le_of_ble_eq_true rfl⟩) (fun H locs hP hD hS => ?_)
  refine lv_aload_n hx hb dL_law_177 rfl (lv_at hl 2 rfl) ?_
  refine lv_aload_n hx hb dL_law_178 rfl (lv_at hl 0 rfl) ?_
  refine lv_iload_n hx hb dL_law_179 rfl (lv_at hl 3 rfl) ?_
  refine lv_iconst (v := nI 1) hx hb dL_law_180 (by decide) ?_
  refine lv_iadd hx hb dL_law_181 ?_
  refine qtop (y := nI (i + 1)) (nI_add _ _) ?_
  refine q_sld hx hb hX hbl hbA hS (j := i + 1) (by omega) (by omega) dL_law_182 ?_
  refine goI (ws := (wS o k (lvS (R, C, n, f, d, g) (xs (i + 1))) ++ wMs o2 k2 (R, C, n, f, d, g) an)) (ws' := (wS o k (lvS (R, C, n, f, d, g) (xs (i + 1))) ++ wMs o2 k2 (lvS (R, C, n, f, d, g) (xs (i + 1))) (an))) (qFitR hD rfl) hP hD hS hA (va_runV (rm := ({ frames := 1, cells := 0, slots := 0, locals := 22 } : Room)) (As := [.int (xs (i + 1))]) (rest := [.int (lvX C (xs (i + 1)))]) ⟨hx, hb, hml, hown, hts⟩ (MetI.at (k_X4_leave l dC dI o2 k2 R C an n f d g (xs (i + 1))) H.size) (cwV 1 hts gL_law_X4_leave rfl rfl rfl (by decide +kernel) ⟨Nat.le_of_ble_eq_true rfl, Nat.le_of_ble_eq_true rfl⟩) (preWV hKm (va_PR hP) (va_DR hD) (va_recv hK hP (ci := 4) (q0 := 15) rfl rfl)) rfl rfl hl.1 rfl (lv_room (Nat.le_of_ble_eq_true rfl)) dL_law_183 ⟨Nat.le_of_ble_eq_true rfl, Nat.le_of_ble_eq_true rfl⟩) (fun H locs hP hD hS => ?_)
  refine lv_icmp_eq (tgt := 490) hx hb dL_law_186 (by decide) (fun c_186 => ?_) (fun c_186 => ?_)
  · exact kk (lvS (R, C, n, f, d, g) (xs (i + 1))) (an) H locs ls (inv_leave hI) hP hD hS (lv_sub hl [0, 1, 2, 3] rfl)
  · exact absurd rfl c_186
set_option maxHeartbeats 4000000 in
set_option maxRecDepth 100000 in
theorem lc_3 {p : Program} {l : Launch} {e : Env} {s : State} {m : MethodId} {below : List Frame} {meth : Method} {cd : Code} {dC : Nat → ClassId} {dI : Nat → Nat → Nat} {b L : Nat} {xs : Nat → Int32} {o : Nat → Nat} {k : Nat → ClassId} {o2 : Nat → Nat} {k2 : Nat → ClassId} {i q : Nat} (hx : p.tables.exec = Jvm.exec) (hb : cd.code = code) (hml : cd.maxLocals = 4) (hown : s.vm.findClass RL = some m.cls) (hts : ∀ w ∈ wsL_law, w.before #[Value.ref b] s = true) (hX : va_X b L xs s s.heap) (hbl : b < s.heap.size) (hK : va_K (dC, dI) vwCl (tyX k) s) (hKm : va_K (dC, dI) vwCl (tyM k2) s) (hiL : i + 3 ≤ L) (hL : L ≤ 1536) (hq : q ≤ 511) (R C : Nat → Nat → Int32) (n : Nat) (f : Nat → Int32) (d : Nat) (g an : Nat → Int32) (hI : Inv (R, C, n, f, d, g) an q) (H : Heap) (locs : List Loc) (ls : Array Slot) (hP : va_P (dC, dI) vwCl (wX o k R C n f d g ++ wMs o2 k2 (R, C, n, f, d, g) an) H) (hD : va_D (fun q : Nat => s.heap.size ≤ q) (wX o k R C n f d g ++ wMs o2 k2 (R, C, n, f, d, g) an)) (hS : va_S (fun q : Nat => s.heap.size ≤ q) s.heap H locs) (hl : lv_has ls 4 [(0, .ref b), (1, .ref (o 0)), (2, .ref (o2 0)), (3, .int (nI i))]) (kk : LK p l e s m below meth cd b dC dI o k o2 k2 i q) : LW p l e s m below meth cd b H locs (F0 m 191 ls []) := by
  have hA : ∀ q : Nat, s.heap.size ≤ q → (fun q : Nat => s.heap.size ≤ q) q := fun _ h => h
  have hbA : ¬ (fun q : Nat => s.heap.size ≤ q) b := Nat.not_le.mpr hbl
  have hn := inv_n hI
  have hm := inv_m hI
  have ha := inv_a hI
  have hroom := inv_room hI
  have hdn := inv_dn hI hq
  have hd := inv_d hI hq
  have hAn := inv_an hI
  have hfl := inv_fl hI
  unfold LW
  refine lv_aload_n hx hb dL_law_191 rfl (lv_at hl 1 rfl) ?_
  refine lv_aload_n hx hb dL_law_192 rfl (lv_at hl 0 rfl) ?_
  refine lv_iload_n hx hb dL_law_193 rfl (lv_at hl 3 rfl) ?_
  refine lv_iconst (v := nI 1) hx hb dL_law_194 (by decide) ?_
  refine lv_iadd hx hb dL_law_195 ?_
  refine qtop (y := nI (i + 1)) (nI_add _ _) ?_
  refine q_sld hx hb hX hbl hbA hS (j := i + 1) (by omega) (by omega) dL_law_196 ?_
  refine goI (ws := (wX o k R C n f d g ++ wMs o2 k2 (R, C, n, f, d, g) an)) (ws' := (wS o k (dlS (R, C, n, f, d, g) (xs (i + 1))) ++ wMs o2 k2 (R, C, n, f, d, g) an)) (qFitL hD rfl) hP hD hS hA (va_runV (rm := ({ frames := 6, cells := 0, slots := 0, locals := 145 } : Room)) (As := [.int (xs (i + 1))]) (rest := []) ⟨hx, hb, hml, hown, hts⟩ (MetI.at (k_X3_deliver l dC dI o k R C n f d g hn hm ha hroom hdn (xs (i + 1))) H.size) (cwV 1 hts gL_law_X3_deliver rfl rfl rfl (by decide +kernel) ⟨Nat.le_of_ble_eq_true rfl, Nat.le_of_ble_eq_true rfl⟩) (preWV hK (va_PL hP) (va_DL hD) (va_recv hK hP (ci := 3) (q0 := 0) rfl rfl)) rfl rfl hl.1 rfl (lv_room (Nat.le_of_ble_eq_true rfl)) dL_law_197 ⟨Nat.le_of_ble_eq_true rfl, Nat.le_of_ble_eq_true rfl⟩) (fun H locs hP hD hS => ?_)
  refine lv_aload_n hx hb dL_law_200 rfl (lv_at hl 2 rfl) ?_
  refine lv_aload_n hx hb dL_law_201 rfl (lv_at hl 0 rfl) ?_
  refine lv_iload_n hx hb dL_law_202 rfl (lv_at hl 3 rfl) ?_
  refine lv_iconst (v := nI 1) hx hb dL_law_203 (by decide) ?_
  refine lv_iadd hx hb dL_law_204 ?_
  refine qtop (y := nI (i + 1)) (nI_add _ _) ?_
  refine q_sld hx hb hX hbl hbA hS (j := i + 1) (by omega) (by omega) dL_law_205 ?_
  refine goJ (ws := (wS o k (dlS (R, C, n, f, d, g) (xs (i + 1))) ++ wMs o2 k2 (R, C, n, f, d, g) an)) (B' := fun u => (wS o k (dlS (R, C, n, f, d, g) (xs (i + 1))) ++ wMs o2 k2 (dlS (R, C, n, f, d, g) (xs (i + 1))) (u))) (fun u => (qFitR hD rfl)) hP hD hS hA (va_runV (rm := ({ frames := 2, cells := 0, slots := 0, locals := 52 } : Room)) (As := [.int (xs (i + 1))]) (rest := [.int (dlX (R, C, n, f, d, g) (xs (i + 1)))]) ⟨hx, hb, hml, hown, hts⟩ (MetJ.at (k_X4_deliver l dC dI o2 k2 R C an n f d g hn hm ha hd hAn (xs (i + 1))) H.size) (cwV 1 hts gL_law_X4_deliver rfl rfl rfl (by decide +kernel) ⟨Nat.le_of_ble_eq_true rfl, Nat.le_of_ble_eq_true rfl⟩) (preWV hKm (va_PR hP) (va_DR hD) (va_recv hK hP (ci := 4) (q0 := 15) rfl rfl)) rfl rfl hl.1 rfl (lv_room (Nat.le_of_ble_eq_true rfl)) dL_law_206 ⟨Nat.le_of_ble_eq_true rfl, Nat.le_of_ble_eq_true rfl⟩) (fun u H locs hu hP hD hS => ?_)
  refine lv_icmp_eq (tgt := 490) hx hb dL_law_209 (by decide) (fun c_209 => ?_) (fun c_209 => ?_)
  · exact kk (dlS (R, C, n, f, d, g) (xs (i + 1))) (u) H locs ls (inv_deliver hI hu) hP hD hS (lv_sub hl [0, 1, 2, 3] rfl)
  · exact absurd rfl c_209
set_option maxHeartbeats 4000000 in
set_option maxRecDepth 100000 in
theorem lc_4 {p : Program} {l : Launch} {e : Env} {s : State} {m : MethodId} {below : List Frame} {meth : Method} {cd : Code} {dC : Nat → ClassId} {dI : Nat → Nat → Nat} {b L : Nat} {xs : Nat → Int32} {o : Nat → Nat} {k : Nat → ClassId} {o2 : Nat → Nat} {k2 : Nat → ClassId} {i q : Nat} (hx : p.tables.exec = Jvm.exec) (hb : cd.code = code) (hml : cd.maxLocals = 4) (hown : s.vm.findClass RL = some m.cls) (hts : ∀ w ∈ wsL_law, w.before #[Value.ref b] s = true) (hX : va_X b L xs s s.heap) (hbl : b < s.heap.size) (hK : va_K (dC, dI) vwCl (tyX k) s) (hKm : va_K (dC, dI) vwCl (tyM k2) s) (hiL : i + 3 ≤ L) (hL : L ≤ 1536) (hq : q ≤ 511) (R C : Nat → Nat → Int32) (n : Nat) (f : Nat → Int32) (d : Nat) (g an : Nat → Int32) (hI : Inv (R, C, n, f, d, g) an q) (H : Heap) (locs : List Loc) (ls : Array Slot) (hP : va_P (dC, dI) vwCl (wX o k R C n f d g ++ wMs o2 k2 (R, C, n, f, d, g) an) H) (hD : va_D (fun q : Nat => s.heap.size ≤ q) (wX o k R C n f d g ++ wMs o2 k2 (R, C, n, f, d, g) an)) (hS : va_S (fun q : Nat => s.heap.size ≤ q) s.heap H locs) (hl : lv_has ls 4 [(0, .ref b), (1, .ref (o 0)), (2, .ref (o2 0)), (3, .int (nI i))]) (kk : LK p l e s m below meth cd b dC dI o k o2 k2 i q) : LW p l e s m below meth cd b H locs (F0 m 214 ls []) := by
  have hA : ∀ q : Nat, s.heap.size ≤ q → (fun q : Nat => s.heap.size ≤ q) q := fun _ h => h
  have hbA : ¬ (fun q : Nat => s.heap.size ≤ q) b := Nat.not_le.mpr hbl
  have hn := inv_n hI
  have hm := inv_m hI
  have ha := inv_a hI
  have hroom := inv_room hI
  have hdn := inv_dn hI hq
  have hd := inv_d hI hq
  have hAn := inv_an hI
  have hfl := inv_fl hI
  unfold LW
  refine lv_aload_n hx hb dL_law_214 rfl (lv_at hl 1 rfl) ?_
  refine lv_aload_n hx hb dL_law_215 rfl (lv_at hl 0 rfl) ?_
  refine lv_iload_n hx hb dL_law_216 rfl (lv_at hl 3 rfl) ?_
  refine lv_iconst (v := nI 1) hx hb dL_law_217 (by decide) ?_
  refine lv_iadd hx hb dL_law_218 ?_
  refine qtop (y := nI (i + 1)) (nI_add _ _) ?_
  refine q_sld hx hb hX hbl hbA hS (j := i + 1) (by omega) (by omega) dL_law_219 ?_
  refine goI (ws := (wX o k R C n f d g ++ wMs o2 k2 (R, C, n, f, d, g) an)) (ws' := (wS o k (lsS (R, C, n, f, d, g) (xs (i + 1))) ++ wMs o2 k2 (R, C, n, f, d, g) an)) (qFitL hD rfl) hP hD hS hA (va_runV (rm := ({ frames := 2, cells := 0, slots := 0, locals := 43 } : Room)) (As := [.int (xs (i + 1))]) (rest := []) ⟨hx, hb, hml, hown, hts⟩ (MetI.at (k_X3_lose l dC dI o k R C n f d g hn (xs (i + 1))) H.size) (cwV 1 hts gL_law_X3_lose rfl rfl rfl (by decide +kernel) ⟨Nat.le_of_ble_eq_true rfl, Nat.le_of_ble_eq_true rfl⟩) (preWV hK (va_PL hP) (va_DL hD) (va_recv hK hP (ci := 3) (q0 := 0) rfl rfl)) rfl rfl hl.1 rfl (lv_room (Nat.le_of_ble_eq_true rfl)) dL_law_220 ⟨Nat.le_of_ble_eq_true rfl, Nat.le_of_ble_eq_true rfl⟩) (fun H locs hP hD hS => ?_)
  refine lv_aload_n hx hb dL_law_223 rfl (lv_at hl 2 rfl) ?_
  refine lv_aload_n hx hb dL_law_224 rfl (lv_at hl 0 rfl) ?_
  refine lv_iload_n hx hb dL_law_225 rfl (lv_at hl 3 rfl) ?_
  refine lv_iconst (v := nI 1) hx hb dL_law_226 (by decide) ?_
  refine lv_iadd hx hb dL_law_227 ?_
  refine qtop (y := nI (i + 1)) (nI_add _ _) ?_
  refine q_sld hx hb hX hbl hbA hS (j := i + 1) (by omega) (by omega) dL_law_228 ?_
  refine goI (ws := (wS o k (lsS (R, C, n, f, d, g) (xs (i + 1))) ++ wMs o2 k2 (R, C, n, f, d, g) an)) (ws' := (wS o k (lsS (R, C, n, f, d, g) (xs (i + 1))) ++ wMs o2 k2 (lsS (R, C, n, f, d, g) (xs (i + 1))) (an))) (qFitR hD rfl) hP hD hS hA (va_runV (rm := ({ frames := 1, cells := 0, slots := 0, locals := 22 } : Room)) (As := [.int (xs (i + 1))]) (rest := [.int (lsX (R, C, n, f, d, g) (xs (i + 1)))]) ⟨hx, hb, hml, hown, hts⟩ (MetI.at (k_X4_lose l dC dI o2 k2 R C an n f d g hn (xs (i + 1))) H.size) (cwV 1 hts gL_law_X4_lose rfl rfl rfl (by decide +kernel) ⟨Nat.le_of_ble_eq_true rfl, Nat.le_of_ble_eq_true rfl⟩) (preWV hKm (va_PR hP) (va_DR hD) (va_recv hK hP (ci := 4) (q0 := 15) rfl rfl)) rfl rfl hl.1 rfl (lv_room (Nat.le_of_ble_eq_true rfl)) dL_law_229 ⟨Nat.le_of_ble_eq_true rfl, Nat.le_of_ble_eq_true rfl⟩) (fun H locs hP hD hS => ?_)
  refine lv_icmp_eq (tgt := 490) hx hb dL_law_232 (by decide) (fun c_232 => ?_) (fun c_232 => ?_)
  · exact kk (lsS (R, C, n, f, d, g) (xs (i + 1))) (an) H locs ls (inv_lose hI) hP hD hS (lv_sub hl [0, 1, 2, 3] rfl)
  · exact absurd rfl c_232
set_option maxHeartbeats 4000000 in
set_option maxRecDepth 100000 in
theorem lc_5 {p : Program} {l : Launch} {e : Env} {s : State} {m : MethodId} {below : List Frame} {meth : Method} {cd : Code} {dC : Nat → ClassId} {dI : Nat → Nat → Nat} {b L : Nat} {xs : Nat → Int32} {o : Nat → Nat} {k : Nat → ClassId} {o2 : Nat → Nat} {k2 : Nat → ClassId} {i q : Nat} (hx : p.tables.exec = Jvm.exec) (hb : cd.code = code) (hml : cd.maxLocals = 4) (hown : s.vm.findClass RL = some m.cls) (hts : ∀ w ∈ wsL_law, w.before #[Value.ref b] s = true) (hX : va_X b L xs s s.heap) (hbl : b < s.heap.size) (hK : va_K (dC, dI) vwCl (tyX k) s) (hKm : va_K (dC, dI) vwCl (tyM k2) s) (hiL : i + 3 ≤ L) (hL : L ≤ 1536) (hq : q ≤ 511) (R C : Nat → Nat → Int32) (n : Nat) (f : Nat → Int32) (d : Nat) (g an : Nat → Int32) (hI : Inv (R, C, n, f, d, g) an q) (H : Heap) (locs : List Loc) (ls : Array Slot) (hP : va_P (dC, dI) vwCl (wX o k R C n f d g ++ wMs o2 k2 (R, C, n, f, d, g) an) H) (hD : va_D (fun q : Nat => s.heap.size ≤ q) (wX o k R C n f d g ++ wMs o2 k2 (R, C, n, f, d, g) an)) (hS : va_S (fun q : Nat => s.heap.size ≤ q) s.heap H locs) (hl : lv_has ls 4 [(0, .ref b), (1, .ref (o 0)), (2, .ref (o2 0)), (3, .int (nI i))]) (kk : LK p l e s m below meth cd b dC dI o k o2 k2 i q) : LW p l e s m below meth cd b H locs (F0 m 237 ls []) := by
  have hA : ∀ q : Nat, s.heap.size ≤ q → (fun q : Nat => s.heap.size ≤ q) q := fun _ h => h
  have hbA : ¬ (fun q : Nat => s.heap.size ≤ q) b := Nat.not_le.mpr hbl
  have hn := inv_n hI
  have hm := inv_m hI
  have ha := inv_a hI
  have hroom := inv_room hI
  have hdn := inv_dn hI hq
  have hd := inv_d hI hq
  have hAn := inv_an hI
  have hfl := inv_fl hI
  unfold LW
  refine lv_aload_n hx hb dL_law_237 rfl (lv_at hl 1 rfl) ?_
  refine lv_aload_n hx hb dL_law_238 rfl (lv_at hl 0 rfl) ?_
  refine lv_iload_n hx hb dL_law_239 rfl (lv_at hl 3 rfl) ?_
  refine lv_iconst (v := nI 1) hx hb dL_law_240 (by decide) ?_
  refine lv_iadd hx hb dL_law_241 ?_
  refine qtop (y := nI (i + 1)) (nI_add _ _) ?_
  refine q_sld hx hb hX hbl hbA hS (j := i + 1) (by omega) (by omega) dL_law_242 ?_
  refine goI (ws := (wX o k R C n f d g ++ wMs o2 k2 (R, C, n, f, d, g) an)) (ws' := (wS o k (rpS (R, C, n, f, d, g) (xs (i + 1))) ++ wMs o2 k2 (R, C, n, f, d, g) an)) (qFitL hD rfl) hP hD hS hA (va_runV (rm := ({ frames := 2, cells := 0, slots := 0, locals := 43 } : Room)) (As := [.int (xs (i + 1))]) (rest := []) ⟨hx, hb, hml, hown, hts⟩ (MetI.at (k_X3_repeat l dC dI o k R C n f d g hn (xs (i + 1))) H.size) (cwV 1 hts gL_law_X3_repeat rfl rfl rfl (by decide +kernel) ⟨Nat.le_of_ble_eq_true rfl, Nat.le_of_ble_eq_true rfl⟩) (preWV hK (va_PL hP) (va_DL hD) (va_recv hK hP (ci := 3) (q0 := 0) rfl rfl)) rfl rfl hl.1 rfl (lv_room (Nat.le_of_ble_eq_true rfl)) dL_law_243 ⟨Nat.le_of_ble_eq_true rfl, Nat.le_of_ble_eq_true rfl⟩) (fun H locs hP hD hS => ?_)
  refine lv_aload_n hx hb dL_law_246 rfl (lv_at hl 2 rfl) ?_
  refine lv_aload_n hx hb dL_law_247 rfl (lv_at hl 0 rfl) ?_
  refine lv_iload_n hx hb dL_law_248 rfl (lv_at hl 3 rfl) ?_
  refine lv_iconst (v := nI 1) hx hb dL_law_249 (by decide) ?_
  refine lv_iadd hx hb dL_law_250 ?_
  refine qtop (y := nI (i + 1)) (nI_add _ _) ?_
  refine q_sld hx hb hX hbl hbA hS (j := i + 1) (by omega) (by omega) dL_law_251 ?_
  refine goI (ws := (wS o k (rpS (R, C, n, f, d, g) (xs (i + 1))) ++ wMs o2 k2 (R, C, n, f, d, g) an)) (ws' := (wS o k (rpS (R, C, n, f, d, g) (xs (i + 1))) ++ wMs o2 k2 (rpS (R, C, n, f, d, g) (xs (i + 1))) (an))) (qFitR hD rfl) hP hD hS hA (va_runV (rm := ({ frames := 1, cells := 0, slots := 0, locals := 27 } : Room)) (As := [.int (xs (i + 1))]) (rest := [.int (rpX (R, C, n, f, d, g) (xs (i + 1)))]) ⟨hx, hb, hml, hown, hts⟩ (MetI.at (k_X4_repeat l dC dI o2 k2 R C an n f d g hn (xs (i + 1))) H.size) (cwV 1 hts gL_law_X4_repeat rfl rfl rfl (by decide +kernel) ⟨Nat.le_of_ble_eq_true rfl, Nat.le_of_ble_eq_true rfl⟩) (preWV hKm (va_PR hP) (va_DR hD) (va_recv hK hP (ci := 4) (q0 := 15) rfl rfl)) rfl rfl hl.1 rfl (lv_room (Nat.le_of_ble_eq_true rfl)) dL_law_252 ⟨Nat.le_of_ble_eq_true rfl, Nat.le_of_ble_eq_true rfl⟩) (fun H locs hP hD hS => ?_)
  refine lv_icmp_eq (tgt := 490) hx hb dL_law_255 (by decide) (fun c_255 => ?_) (fun c_255 => ?_)
  · exact kk (rpS (R, C, n, f, d, g) (xs (i + 1))) (an) H locs ls (inv_repeat hI) hP hD hS (lv_sub hl [0, 1, 2, 3] rfl)
  · exact absurd rfl c_255
set_option maxHeartbeats 4000000 in
set_option maxRecDepth 100000 in
theorem lc_6 {p : Program} {l : Launch} {e : Env} {s : State} {m : MethodId} {below : List Frame} {meth : Method} {cd : Code} {dC : Nat → ClassId} {dI : Nat → Nat → Nat} {b L : Nat} {xs : Nat → Int32} {o : Nat → Nat} {k : Nat → ClassId} {o2 : Nat → Nat} {k2 : Nat → ClassId} {i q : Nat} (hx : p.tables.exec = Jvm.exec) (hb : cd.code = code) (hml : cd.maxLocals = 4) (hown : s.vm.findClass RL = some m.cls) (hts : ∀ w ∈ wsL_law, w.before #[Value.ref b] s = true) (hX : va_X b L xs s s.heap) (hbl : b < s.heap.size) (hK : va_K (dC, dI) vwCl (tyX k) s) (hKm : va_K (dC, dI) vwCl (tyM k2) s) (hiL : i + 3 ≤ L) (hL : L ≤ 1536) (hq : q ≤ 511) (R C : Nat → Nat → Int32) (n : Nat) (f : Nat → Int32) (d : Nat) (g an : Nat → Int32) (hI : Inv (R, C, n, f, d, g) an q) (H : Heap) (locs : List Loc) (ls : Array Slot) (hP : va_P (dC, dI) vwCl (wX o k R C n f d g ++ wMs o2 k2 (R, C, n, f, d, g) an) H) (hD : va_D (fun q : Nat => s.heap.size ≤ q) (wX o k R C n f d g ++ wMs o2 k2 (R, C, n, f, d, g) an)) (hS : va_S (fun q : Nat => s.heap.size ≤ q) s.heap H locs) (hl : lv_has ls 4 [(0, .ref b), (1, .ref (o 0)), (2, .ref (o2 0)), (3, .int (nI i))]) (kk : LK p l e s m below meth cd b dC dI o k o2 k2 i q) : LW p l e s m below meth cd b H locs (F0 m 260 ls []) := by
  have hA : ∀ q : Nat, s.heap.size ≤ q → (fun q : Nat => s.heap.size ≤ q) q := fun _ h => h
  have hbA : ¬ (fun q : Nat => s.heap.size ≤ q) b := Nat.not_le.mpr hbl
  have hn := inv_n hI
  have hm := inv_m hI
  have ha := inv_a hI
  have hroom := inv_room hI
  have hdn := inv_dn hI hq
  have hd := inv_d hI hq
  have hAn := inv_an hI
  have hfl := inv_fl hI
  unfold LW
  refine lv_aload_n hx hb dL_law_260 rfl (lv_at hl 1 rfl) ?_
  refine lv_aload_n hx hb dL_law_261 rfl (lv_at hl 0 rfl) ?_
  refine lv_iload_n hx hb dL_law_262 rfl (lv_at hl 3 rfl) ?_
  refine lv_iconst (v := nI 1) hx hb dL_law_263 (by decide) ?_
  refine lv_iadd hx hb dL_law_264 ?_
  refine qtop (y := nI (i + 1)) (nI_add _ _) ?_
  refine q_sld hx hb hX hbl hbA hS (j := i + 1) (by omega) (by omega) dL_law_265 ?_
  refine goI (ws := (wX o k R C n f d g ++ wMs o2 k2 (R, C, n, f, d, g) an)) (ws' := (wS o k (flS (R, C, n, f, d, g) (xs (i + 1))) ++ wMs o2 k2 (R, C, n, f, d, g) an)) (qFitL hD rfl) hP hD hS hA (va_runV (rm := ({ frames := 1, cells := 0, slots := 0, locals := 22 } : Room)) (As := [.int (xs (i + 1))]) (rest := []) ⟨hx, hb, hml, hown, hts⟩ (MetI.at (k_X3_fail l dC dI o k R C n f d g (xs (i + 1))) H.size) (cwV 1 hts gL_law_X3_fail rfl rfl rfl (by decide +kernel) ⟨Nat.le_of_ble_eq_true rfl, Nat.le_of_ble_eq_true rfl⟩) (preWV hK (va_PL hP) (va_DL hD) (va_recv hK hP (ci := 3) (q0 := 0) rfl rfl)) rfl rfl hl.1 rfl (lv_room (Nat.le_of_ble_eq_true rfl)) dL_law_266 ⟨Nat.le_of_ble_eq_true rfl, Nat.le_of_ble_eq_true rfl⟩) (fun H locs hP hD hS => ?_)
  refine lv_aload_n hx hb dL_law_269 rfl (lv_at hl 2 rfl) ?_
  refine lv_aload_n hx hb dL_law_270 rfl (lv_at hl 0 rfl) ?_
  refine lv_iload_n hx hb dL_law_271 rfl (lv_at hl 3 rfl) ?_
  refine lv_iconst (v := nI 1) hx hb dL_law_272 (by decide) ?_
  refine lv_iadd hx hb dL_law_273 ?_
  refine qtop (y := nI (i + 1)) (nI_add _ _) ?_
  refine q_sld hx hb hX hbl hbA hS (j := i + 1) (by omega) (by omega) dL_law_274 ?_
  refine goI (ws := (wS o k (flS (R, C, n, f, d, g) (xs (i + 1))) ++ wMs o2 k2 (R, C, n, f, d, g) an)) (ws' := (wS o k (flS (R, C, n, f, d, g) (xs (i + 1))) ++ wMs o2 k2 (flS (R, C, n, f, d, g) (xs (i + 1))) (an))) (qFitR hD rfl) hP hD hS hA (va_runV (rm := ({ frames := 1, cells := 0, slots := 0, locals := 22 } : Room)) (As := [.int (xs (i + 1))]) (rest := [.int (flX (R, C, n, f, d, g) (xs (i + 1)))]) ⟨hx, hb, hml, hown, hts⟩ (MetI.at (k_X4_fail l dC dI o2 k2 R C an n f d g hfl (xs (i + 1))) H.size) (cwV 1 hts gL_law_X4_fail rfl rfl rfl (by decide +kernel) ⟨Nat.le_of_ble_eq_true rfl, Nat.le_of_ble_eq_true rfl⟩) (preWV hKm (va_PR hP) (va_DR hD) (va_recv hK hP (ci := 4) (q0 := 15) rfl rfl)) rfl rfl hl.1 rfl (lv_room (Nat.le_of_ble_eq_true rfl)) dL_law_275 ⟨Nat.le_of_ble_eq_true rfl, Nat.le_of_ble_eq_true rfl⟩) (fun H locs hP hD hS => ?_)
  refine lv_icmp_eq (tgt := 490) hx hb dL_law_278 (by decide) (fun c_278 => ?_) (fun c_278 => ?_)
  · exact kk (flS (R, C, n, f, d, g) (xs (i + 1))) (an) H locs ls (inv_fail hI) hP hD hS (lv_sub hl [0, 1, 2, 3] rfl)
  · exact absurd rfl c_278
set_option maxHeartbeats 4000000 in
set_option maxRecDepth 100000 in
theorem lc_7 {p : Program} {l : Launch} {e : Env} {s : State} {m : MethodId} {below : List Frame} {meth : Method} {cd : Code} {dC : Nat → ClassId} {dI : Nat → Nat → Nat} {b L : Nat} {xs : Nat → Int32} {o : Nat → Nat} {k : Nat → ClassId} {o2 : Nat → Nat} {k2 : Nat → ClassId} {i q : Nat} (hx : p.tables.exec = Jvm.exec) (hb : cd.code = code) (hml : cd.maxLocals = 4) (hown : s.vm.findClass RL = some m.cls) (hts : ∀ w ∈ wsL_law, w.before #[Value.ref b] s = true) (hX : va_X b L xs s s.heap) (hbl : b < s.heap.size) (hK : va_K (dC, dI) vwCl (tyX k) s) (hKm : va_K (dC, dI) vwCl (tyM k2) s) (hiL : i + 3 ≤ L) (hL : L ≤ 1536) (hq : q ≤ 511) (R C : Nat → Nat → Int32) (n : Nat) (f : Nat → Int32) (d : Nat) (g an : Nat → Int32) (hI : Inv (R, C, n, f, d, g) an q) (H : Heap) (locs : List Loc) (ls : Array Slot) (hP : va_P (dC, dI) vwCl (wX o k R C n f d g ++ wMs o2 k2 (R, C, n, f, d, g) an) H) (hD : va_D (fun q : Nat => s.heap.size ≤ q) (wX o k R C n f d g ++ wMs o2 k2 (R, C, n, f, d, g) an)) (hS : va_S (fun q : Nat => s.heap.size ≤ q) s.heap H locs) (hl : lv_has ls 4 [(0, .ref b), (1, .ref (o 0)), (2, .ref (o2 0)), (3, .int (nI i))]) (kk : LK p l e s m below meth cd b dC dI o k o2 k2 i q) : LW p l e s m below meth cd b H locs (F0 m 283 ls []) := by
  have hA : ∀ q : Nat, s.heap.size ≤ q → (fun q : Nat => s.heap.size ≤ q) q := fun _ h => h
  have hbA : ¬ (fun q : Nat => s.heap.size ≤ q) b := Nat.not_le.mpr hbl
  have hn := inv_n hI
  have hm := inv_m hI
  have ha := inv_a hI
  have hroom := inv_room hI
  have hdn := inv_dn hI hq
  have hd := inv_d hI hq
  have hAn := inv_an hI
  have hfl := inv_fl hI
  unfold LW
  refine lv_aload_n hx hb dL_law_283 rfl (lv_at hl 1 rfl) ?_
  refine goS (va_runV (rm := ({ frames := 0, cells := 0, slots := 0, locals := 0 } : Room)) (As := []) (rest := []) ⟨hx, hb, hml, hown, hts⟩ (MetS.at (k_X3_messages l dC dI o k R C n f d g )) (cwV 0 hts gL_law_X3_messages rfl rfl rfl (by decide +kernel) ⟨Nat.le_of_ble_eq_true rfl, Nat.le_of_ble_eq_true rfl⟩) (preSV hK (va_PL hP) (va_recv hK hP (ci := 3) (q0 := 0) rfl rfl)) rfl rfl hl.1 rfl (lv_room (Nat.le_of_ble_eq_true rfl)) dL_law_284 ⟨Nat.le_of_ble_eq_true rfl, Nat.le_of_ble_eq_true rfl⟩) ?_
  refine lv_aload_n hx hb dL_law_287 rfl (lv_at hl 2 rfl) ?_
  refine goS (va_runV (rm := ({ frames := 0, cells := 0, slots := 0, locals := 0 } : Room)) (As := []) (rest := [.int (nI n)]) ⟨hx, hb, hml, hown, hts⟩ (MetS.at (k_X4_messages l dC dI o2 k2 R C an n f d g )) (cwV 0 hts gL_law_X4_messages rfl rfl rfl (by decide +kernel) ⟨Nat.le_of_ble_eq_true rfl, Nat.le_of_ble_eq_true rfl⟩) (preSV hKm (va_PR hP) (va_recv hK hP (ci := 4) (q0 := 15) rfl rfl)) rfl rfl hl.1 rfl (lv_room (Nat.le_of_ble_eq_true rfl)) dL_law_288 ⟨Nat.le_of_ble_eq_true rfl, Nat.le_of_ble_eq_true rfl⟩) ?_
  refine lv_icmp_eq (tgt := 490) hx hb dL_law_291 (by decide) (fun c_291 => ?_) (fun c_291 => ?_)
  · exact kk ((R, C, n, f, d, g)) (an) H locs ls (inv_mono hI) hP hD hS (lv_sub hl [0, 1, 2, 3] rfl)
  · exact absurd rfl c_291
set_option maxHeartbeats 4000000 in
set_option maxRecDepth 100000 in
theorem lc_8 {p : Program} {l : Launch} {e : Env} {s : State} {m : MethodId} {below : List Frame} {meth : Method} {cd : Code} {dC : Nat → ClassId} {dI : Nat → Nat → Nat} {b L : Nat} {xs : Nat → Int32} {o : Nat → Nat} {k : Nat → ClassId} {o2 : Nat → Nat} {k2 : Nat → ClassId} {i q : Nat} (hx : p.tables.exec = Jvm.exec) (hb : cd.code = code) (hml : cd.maxLocals = 4) (hown : s.vm.findClass RL = some m.cls) (hts : ∀ w ∈ wsL_law, w.before #[Value.ref b] s = true) (hX : va_X b L xs s s.heap) (hbl : b < s.heap.size) (hK : va_K (dC, dI) vwCl (tyX k) s) (hKm : va_K (dC, dI) vwCl (tyM k2) s) (hiL : i + 3 ≤ L) (hL : L ≤ 1536) (hq : q ≤ 511) (R C : Nat → Nat → Int32) (n : Nat) (f : Nat → Int32) (d : Nat) (g an : Nat → Int32) (hI : Inv (R, C, n, f, d, g) an q) (H : Heap) (locs : List Loc) (ls : Array Slot) (hP : va_P (dC, dI) vwCl (wX o k R C n f d g ++ wMs o2 k2 (R, C, n, f, d, g) an) H) (hD : va_D (fun q : Nat => s.heap.size ≤ q) (wX o k R C n f d g ++ wMs o2 k2 (R, C, n, f, d, g) an)) (hS : va_S (fun q : Nat => s.heap.size ≤ q) s.heap H locs) (hl : lv_has ls 4 [(0, .ref b), (1, .ref (o 0)), (2, .ref (o2 0)), (3, .int (nI i))]) (kk : LK p l e s m below meth cd b dC dI o k o2 k2 i q) : LW p l e s m below meth cd b H locs (F0 m 296 ls []) := by
  have hA : ∀ q : Nat, s.heap.size ≤ q → (fun q : Nat => s.heap.size ≤ q) q := fun _ h => h
  have hbA : ¬ (fun q : Nat => s.heap.size ≤ q) b := Nat.not_le.mpr hbl
  have hn := inv_n hI
  have hm := inv_m hI
  have ha := inv_a hI
  have hroom := inv_room hI
  have hdn := inv_dn hI hq
  have hd := inv_d hI hq
  have hAn := inv_an hI
  have hfl := inv_fl hI
  unfold LW
  refine lv_aload_n hx hb dL_law_296 rfl (lv_at hl 1 rfl) ?_
  refine lv_aload_n hx hb dL_law_297 rfl (lv_at hl 0 rfl) ?_
  refine lv_iload_n hx hb dL_law_298 rfl (lv_at hl 3 rfl) ?_
  refine lv_iconst (v := nI 1) hx hb dL_law_299 (by decide) ?_
  refine lv_iadd hx hb dL_law_300 ?_
  refine qtop (y := nI (i + 1)) (nI_add _ _) ?_
  refine q_sld hx hb hX hbl hbA hS (j := i + 1) (by omega) (by omega) dL_law_301 ?_
  refine lv_aload_n hx hb dL_law_302 rfl (lv_at hl 0 rfl) ?_
  refine lv_iload_n hx hb dL_law_303 rfl (lv_at hl 3 rfl) ?_
  refine lv_iconst (v := nI 2) hx hb dL_law_304 (by decide) ?_
  refine lv_iadd hx hb dL_law_305 ?_
  refine qtop (y := nI (i + 2)) (nI_add _ _) ?_
  refine q_sld hx hb hX hbl hbA hS (j := i + 2) (by omega) (by omega) dL_law_306 ?_
  refine goS (va_runV (rm := ({ frames := 2, cells := 0, slots := 0, locals := 43 } : Room)) (As := [.int (xs (i + 1)), .int (xs (i + 2))]) (rest := []) ⟨hx, hb, hml, hown, hts⟩ (MetS.at (k_X3_message l dC dI o k R C n f d g hn (xs (i + 1)) (xs (i + 2)))) (cwV 2 hts gL_law_X3_message rfl rfl rfl (by decide +kernel) ⟨Nat.le_of_ble_eq_true rfl, Nat.le_of_ble_eq_true rfl⟩) (preSV hK (va_PL hP) (va_recv hK hP (ci := 3) (q0 := 0) rfl rfl)) rfl rfl hl.1 rfl (lv_room (Nat.le_of_ble_eq_true rfl)) dL_law_307 ⟨Nat.le_of_ble_eq_true rfl, Nat.le_of_ble_eq_true rfl⟩) ?_
  refine lv_aload_n hx hb dL_law_310 rfl (lv_at hl 2 rfl) ?_
  refine lv_aload_n hx hb dL_law_311 rfl (lv_at hl 0 rfl) ?_
  refine lv_iload_n hx hb dL_law_312 rfl (lv_at hl 3 rfl) ?_
  refine lv_iconst (v := nI 1) hx hb dL_law_313 (by decide) ?_
  refine lv_iadd hx hb dL_law_314 ?_
  refine qtop (y := nI (i + 1)) (nI_add _ _) ?_
  refine q_sld hx hb hX hbl hbA hS (j := i + 1) (by omega) (by omega) dL_law_315 ?_
  refine lv_aload_n hx hb dL_law_316 rfl (lv_at hl 0 rfl) ?_
  refine lv_iload_n hx hb dL_law_317 rfl (lv_at hl 3 rfl) ?_
  refine lv_iconst (v := nI 2) hx hb dL_law_318 (by decide) ?_
  refine lv_iadd hx hb dL_law_319 ?_
  refine qtop (y := nI (i + 2)) (nI_add _ _) ?_
  refine q_sld hx hb hX hbl hbA hS (j := i + 2) (by omega) (by omega) dL_law_320 ?_
  refine goS (va_runV (rm := ({ frames := 1, cells := 0, slots := 0, locals := 22 } : Room)) (As := [.int (xs (i + 1)), .int (xs (i + 2))]) (rest := [.int (if okI (xs (i + 1)) n then (if okI (xs (i + 2)) 6 then f ((xs (i + 1)).toNatClampNeg * 6 + (xs (i + 2)).toNatClampNeg) else 0) else (-1))]) ⟨hx, hb, hml, hown, hts⟩ (MetS.at (k_X4_message l dC dI o2 k2 R C an n f d g hn (xs (i + 1)) (xs (i + 2)))) (cwV 2 hts gL_law_X4_message rfl rfl rfl (by decide +kernel) ⟨Nat.le_of_ble_eq_true rfl, Nat.le_of_ble_eq_true rfl⟩) (preSV hKm (va_PR hP) (va_recv hK hP (ci := 4) (q0 := 15) rfl rfl)) rfl rfl hl.1 rfl (lv_room (Nat.le_of_ble_eq_true rfl)) dL_law_321 ⟨Nat.le_of_ble_eq_true rfl, Nat.le_of_ble_eq_true rfl⟩) ?_
  refine lv_icmp_eq (tgt := 490) hx hb dL_law_324 (by decide) (fun c_324 => ?_) (fun c_324 => ?_)
  · exact kk ((R, C, n, f, d, g)) (an) H locs ls (inv_mono hI) hP hD hS (lv_sub hl [0, 1, 2, 3] rfl)
  · exact absurd rfl c_324
set_option maxHeartbeats 4000000 in
set_option maxRecDepth 100000 in
theorem lc_9 {p : Program} {l : Launch} {e : Env} {s : State} {m : MethodId} {below : List Frame} {meth : Method} {cd : Code} {dC : Nat → ClassId} {dI : Nat → Nat → Nat} {b L : Nat} {xs : Nat → Int32} {o : Nat → Nat} {k : Nat → ClassId} {o2 : Nat → Nat} {k2 : Nat → ClassId} {i q : Nat} (hx : p.tables.exec = Jvm.exec) (hb : cd.code = code) (hml : cd.maxLocals = 4) (hown : s.vm.findClass RL = some m.cls) (hts : ∀ w ∈ wsL_law, w.before #[Value.ref b] s = true) (hX : va_X b L xs s s.heap) (hbl : b < s.heap.size) (hK : va_K (dC, dI) vwCl (tyX k) s) (hKm : va_K (dC, dI) vwCl (tyM k2) s) (hiL : i + 3 ≤ L) (hL : L ≤ 1536) (hq : q ≤ 511) (R C : Nat → Nat → Int32) (n : Nat) (f : Nat → Int32) (d : Nat) (g an : Nat → Int32) (hI : Inv (R, C, n, f, d, g) an q) (H : Heap) (locs : List Loc) (ls : Array Slot) (hP : va_P (dC, dI) vwCl (wX o k R C n f d g ++ wMs o2 k2 (R, C, n, f, d, g) an) H) (hD : va_D (fun q : Nat => s.heap.size ≤ q) (wX o k R C n f d g ++ wMs o2 k2 (R, C, n, f, d, g) an)) (hS : va_S (fun q : Nat => s.heap.size ≤ q) s.heap H locs) (hl : lv_has ls 4 [(0, .ref b), (1, .ref (o 0)), (2, .ref (o2 0)), (3, .int (nI i))]) (kk : LK p l e s m below meth cd b dC dI o k o2 k2 i q) : LW p l e s m below meth cd b H locs (F0 m 329 ls []) := by
  have hA : ∀ q : Nat, s.heap.size ≤ q → (fun q : Nat => s.heap.size ≤ q) q := fun _ h => h
  have hbA : ¬ (fun q : Nat => s.heap.size ≤ q) b := Nat.not_le.mpr hbl
  have hn := inv_n hI
  have hm := inv_m hI
  have ha := inv_a hI
  have hroom := inv_room hI
  have hdn := inv_dn hI hq
  have hd := inv_d hI hq
  have hAn := inv_an hI
  have hfl := inv_fl hI
  unfold LW
  refine lv_aload_n hx hb dL_law_329 rfl (lv_at hl 1 rfl) ?_
  refine lv_aload_n hx hb dL_law_330 rfl (lv_at hl 0 rfl) ?_
  refine lv_iload_n hx hb dL_law_331 rfl (lv_at hl 3 rfl) ?_
  refine lv_iconst (v := nI 1) hx hb dL_law_332 (by decide) ?_
  refine lv_iadd hx hb dL_law_333 ?_
  refine qtop (y := nI (i + 1)) (nI_add _ _) ?_
  refine q_sld hx hb hX hbl hbA hS (j := i + 1) (by omega) (by omega) dL_law_334 ?_
  refine goS (va_runV (rm := ({ frames := 1, cells := 0, slots := 0, locals := 20 } : Room)) (As := [.int (xs (i + 1))]) (rest := []) ⟨hx, hb, hml, hown, hts⟩ (MetS.at (k_X3_tag l dC dI o k R C n f d g (xs (i + 1)))) (cwV 1 hts gL_law_X3_tag rfl rfl rfl (by decide +kernel) ⟨Nat.le_of_ble_eq_true rfl, Nat.le_of_ble_eq_true rfl⟩) (preSV hK (va_PL hP) (va_recv hK hP (ci := 3) (q0 := 0) rfl rfl)) rfl rfl hl.1 rfl (lv_room (Nat.le_of_ble_eq_true rfl)) dL_law_335 ⟨Nat.le_of_ble_eq_true rfl, Nat.le_of_ble_eq_true rfl⟩) ?_
  refine lv_aload_n hx hb dL_law_338 rfl (lv_at hl 2 rfl) ?_
  refine lv_aload_n hx hb dL_law_339 rfl (lv_at hl 0 rfl) ?_
  refine lv_iload_n hx hb dL_law_340 rfl (lv_at hl 3 rfl) ?_
  refine lv_iconst (v := nI 1) hx hb dL_law_341 (by decide) ?_
  refine lv_iadd hx hb dL_law_342 ?_
  refine qtop (y := nI (i + 1)) (nI_add _ _) ?_
  refine q_sld hx hb hX hbl hbA hS (j := i + 1) (by omega) (by omega) dL_law_343 ?_
  refine goS (va_runV (rm := ({ frames := 1, cells := 0, slots := 0, locals := 22 } : Room)) (As := [.int (xs (i + 1))]) (rest := [.int (if okI (xs (i + 1)) 5 then R (xs (i + 1)).toNatClampNeg 0 else (-1))]) ⟨hx, hb, hml, hown, hts⟩ (MetS.at (k_X4_tag l dC dI o2 k2 R C an n f d g (xs (i + 1)))) (cwV 1 hts gL_law_X4_tag rfl rfl rfl (by decide +kernel) ⟨Nat.le_of_ble_eq_true rfl, Nat.le_of_ble_eq_true rfl⟩) (preSV hKm (va_PR hP) (va_recv hK hP (ci := 4) (q0 := 15) rfl rfl)) rfl rfl hl.1 rfl (lv_room (Nat.le_of_ble_eq_true rfl)) dL_law_344 ⟨Nat.le_of_ble_eq_true rfl, Nat.le_of_ble_eq_true rfl⟩) ?_
  refine lv_icmp_eq (tgt := 490) hx hb dL_law_347 (by decide) (fun c_347 => ?_) (fun c_347 => ?_)
  · exact kk ((R, C, n, f, d, g)) (an) H locs ls (inv_mono hI) hP hD hS (lv_sub hl [0, 1, 2, 3] rfl)
  · exact absurd rfl c_347
set_option maxHeartbeats 4000000 in
set_option maxRecDepth 100000 in
theorem lc_10 {p : Program} {l : Launch} {e : Env} {s : State} {m : MethodId} {below : List Frame} {meth : Method} {cd : Code} {dC : Nat → ClassId} {dI : Nat → Nat → Nat} {b L : Nat} {xs : Nat → Int32} {o : Nat → Nat} {k : Nat → ClassId} {o2 : Nat → Nat} {k2 : Nat → ClassId} {i q : Nat} (hx : p.tables.exec = Jvm.exec) (hb : cd.code = code) (hml : cd.maxLocals = 4) (hown : s.vm.findClass RL = some m.cls) (hts : ∀ w ∈ wsL_law, w.before #[Value.ref b] s = true) (hX : va_X b L xs s s.heap) (hbl : b < s.heap.size) (hK : va_K (dC, dI) vwCl (tyX k) s) (hKm : va_K (dC, dI) vwCl (tyM k2) s) (hiL : i + 3 ≤ L) (hL : L ≤ 1536) (hq : q ≤ 511) (R C : Nat → Nat → Int32) (n : Nat) (f : Nat → Int32) (d : Nat) (g an : Nat → Int32) (hI : Inv (R, C, n, f, d, g) an q) (H : Heap) (locs : List Loc) (ls : Array Slot) (hP : va_P (dC, dI) vwCl (wX o k R C n f d g ++ wMs o2 k2 (R, C, n, f, d, g) an) H) (hD : va_D (fun q : Nat => s.heap.size ≤ q) (wX o k R C n f d g ++ wMs o2 k2 (R, C, n, f, d, g) an)) (hS : va_S (fun q : Nat => s.heap.size ≤ q) s.heap H locs) (hl : lv_has ls 4 [(0, .ref b), (1, .ref (o 0)), (2, .ref (o2 0)), (3, .int (nI i))]) (kk : LK p l e s m below meth cd b dC dI o k o2 k2 i q) : LW p l e s m below meth cd b H locs (F0 m 352 ls []) := by
  have hA : ∀ q : Nat, s.heap.size ≤ q → (fun q : Nat => s.heap.size ≤ q) q := fun _ h => h
  have hbA : ¬ (fun q : Nat => s.heap.size ≤ q) b := Nat.not_le.mpr hbl
  have hn := inv_n hI
  have hm := inv_m hI
  have ha := inv_a hI
  have hroom := inv_room hI
  have hdn := inv_dn hI hq
  have hd := inv_d hI hq
  have hAn := inv_an hI
  have hfl := inv_fl hI
  unfold LW
  refine lv_aload_n hx hb dL_law_352 rfl (lv_at hl 1 rfl) ?_
  refine lv_aload_n hx hb dL_law_353 rfl (lv_at hl 0 rfl) ?_
  refine lv_iload_n hx hb dL_law_354 rfl (lv_at hl 3 rfl) ?_
  refine lv_iconst (v := nI 1) hx hb dL_law_355 (by decide) ?_
  refine lv_iadd hx hb dL_law_356 ?_
  refine qtop (y := nI (i + 1)) (nI_add _ _) ?_
  refine q_sld hx hb hX hbl hbA hS (j := i + 1) (by omega) (by omega) dL_law_357 ?_
  refine goS (va_runV (rm := ({ frames := 1, cells := 0, slots := 0, locals := 20 } : Room)) (As := [.int (xs (i + 1))]) (rest := []) ⟨hx, hb, hml, hown, hts⟩ (MetS.at (k_X3_value l dC dI o k R C n f d g (xs (i + 1)))) (cwV 1 hts gL_law_X3_value rfl rfl rfl (by decide +kernel) ⟨Nat.le_of_ble_eq_true rfl, Nat.le_of_ble_eq_true rfl⟩) (preSV hK (va_PL hP) (va_recv hK hP (ci := 3) (q0 := 0) rfl rfl)) rfl rfl hl.1 rfl (lv_room (Nat.le_of_ble_eq_true rfl)) dL_law_358 ⟨Nat.le_of_ble_eq_true rfl, Nat.le_of_ble_eq_true rfl⟩) ?_
  refine lv_aload_n hx hb dL_law_361 rfl (lv_at hl 2 rfl) ?_
  refine lv_aload_n hx hb dL_law_362 rfl (lv_at hl 0 rfl) ?_
  refine lv_iload_n hx hb dL_law_363 rfl (lv_at hl 3 rfl) ?_
  refine lv_iconst (v := nI 1) hx hb dL_law_364 (by decide) ?_
  refine lv_iadd hx hb dL_law_365 ?_
  refine qtop (y := nI (i + 1)) (nI_add _ _) ?_
  refine q_sld hx hb hX hbl hbA hS (j := i + 1) (by omega) (by omega) dL_law_366 ?_
  refine goS (va_runV (rm := ({ frames := 1, cells := 0, slots := 0, locals := 22 } : Room)) (As := [.int (xs (i + 1))]) (rest := [.int (if okI (xs (i + 1)) 5 then R (xs (i + 1)).toNatClampNeg 1 else 0)]) ⟨hx, hb, hml, hown, hts⟩ (MetS.at (k_X4_value l dC dI o2 k2 R C an n f d g (xs (i + 1)))) (cwV 1 hts gL_law_X4_value rfl rfl rfl (by decide +kernel) ⟨Nat.le_of_ble_eq_true rfl, Nat.le_of_ble_eq_true rfl⟩) (preSV hKm (va_PR hP) (va_recv hK hP (ci := 4) (q0 := 15) rfl rfl)) rfl rfl hl.1 rfl (lv_room (Nat.le_of_ble_eq_true rfl)) dL_law_367 ⟨Nat.le_of_ble_eq_true rfl, Nat.le_of_ble_eq_true rfl⟩) ?_
  refine lv_icmp_eq (tgt := 490) hx hb dL_law_370 (by decide) (fun c_370 => ?_) (fun c_370 => ?_)
  · exact kk ((R, C, n, f, d, g)) (an) H locs ls (inv_mono hI) hP hD hS (lv_sub hl [0, 1, 2, 3] rfl)
  · exact absurd rfl c_370
set_option maxHeartbeats 4000000 in
set_option maxRecDepth 100000 in
theorem lc_11 {p : Program} {l : Launch} {e : Env} {s : State} {m : MethodId} {below : List Frame} {meth : Method} {cd : Code} {dC : Nat → ClassId} {dI : Nat → Nat → Nat} {b L : Nat} {xs : Nat → Int32} {o : Nat → Nat} {k : Nat → ClassId} {o2 : Nat → Nat} {k2 : Nat → ClassId} {i q : Nat} (hx : p.tables.exec = Jvm.exec) (hb : cd.code = code) (hml : cd.maxLocals = 4) (hown : s.vm.findClass RL = some m.cls) (hts : ∀ w ∈ wsL_law, w.before #[Value.ref b] s = true) (hX : va_X b L xs s s.heap) (hbl : b < s.heap.size) (hK : va_K (dC, dI) vwCl (tyX k) s) (hKm : va_K (dC, dI) vwCl (tyM k2) s) (hiL : i + 3 ≤ L) (hL : L ≤ 1536) (hq : q ≤ 511) (R C : Nat → Nat → Int32) (n : Nat) (f : Nat → Int32) (d : Nat) (g an : Nat → Int32) (hI : Inv (R, C, n, f, d, g) an q) (H : Heap) (locs : List Loc) (ls : Array Slot) (hP : va_P (dC, dI) vwCl (wX o k R C n f d g ++ wMs o2 k2 (R, C, n, f, d, g) an) H) (hD : va_D (fun q : Nat => s.heap.size ≤ q) (wX o k R C n f d g ++ wMs o2 k2 (R, C, n, f, d, g) an)) (hS : va_S (fun q : Nat => s.heap.size ≤ q) s.heap H locs) (hl : lv_has ls 4 [(0, .ref b), (1, .ref (o 0)), (2, .ref (o2 0)), (3, .int (nI i))]) (kk : LK p l e s m below meth cd b dC dI o k o2 k2 i q) : LW p l e s m below meth cd b H locs (F0 m 375 ls []) := by
  have hA : ∀ q : Nat, s.heap.size ≤ q → (fun q : Nat => s.heap.size ≤ q) q := fun _ h => h
  have hbA : ¬ (fun q : Nat => s.heap.size ≤ q) b := Nat.not_le.mpr hbl
  have hn := inv_n hI
  have hm := inv_m hI
  have ha := inv_a hI
  have hroom := inv_room hI
  have hdn := inv_dn hI hq
  have hd := inv_d hI hq
  have hAn := inv_an hI
  have hfl := inv_fl hI
  unfold LW
  refine lv_aload_n hx hb dL_law_375 rfl (lv_at hl 1 rfl) ?_
  refine lv_aload_n hx hb dL_law_376 rfl (lv_at hl 0 rfl) ?_
  refine lv_iload_n hx hb dL_law_377 rfl (lv_at hl 3 rfl) ?_
  refine lv_iconst (v := nI 1) hx hb dL_law_378 (by decide) ?_
  refine lv_iadd hx hb dL_law_379 ?_
  refine qtop (y := nI (i + 1)) (nI_add _ _) ?_
  refine q_sld hx hb hX hbl hbA hS (j := i + 1) (by omega) (by omega) dL_law_380 ?_
  refine goS (va_runV (rm := ({ frames := 1, cells := 0, slots := 0, locals := 20 } : Room)) (As := [.int (xs (i + 1))]) (rest := []) ⟨hx, hb, hml, hown, hts⟩ (MetS.at (k_X3_failed l dC dI o k R C n f d g (xs (i + 1)))) (cwV 1 hts gL_law_X3_failed rfl rfl rfl (by decide +kernel) ⟨Nat.le_of_ble_eq_true rfl, Nat.le_of_ble_eq_true rfl⟩) (preSV hK (va_PL hP) (va_recv hK hP (ci := 3) (q0 := 0) rfl rfl)) rfl rfl hl.1 rfl (lv_room (Nat.le_of_ble_eq_true rfl)) dL_law_381 ⟨Nat.le_of_ble_eq_true rfl, Nat.le_of_ble_eq_true rfl⟩) ?_
  refine lv_aload_n hx hb dL_law_384 rfl (lv_at hl 2 rfl) ?_
  refine lv_aload_n hx hb dL_law_385 rfl (lv_at hl 0 rfl) ?_
  refine lv_iload_n hx hb dL_law_386 rfl (lv_at hl 3 rfl) ?_
  refine lv_iconst (v := nI 1) hx hb dL_law_387 (by decide) ?_
  refine lv_iadd hx hb dL_law_388 ?_
  refine qtop (y := nI (i + 1)) (nI_add _ _) ?_
  refine q_sld hx hb hX hbl hbA hS (j := i + 1) (by omega) (by omega) dL_law_389 ?_
  refine goS (va_runV (rm := ({ frames := 1, cells := 0, slots := 0, locals := 22 } : Room)) (As := [.int (xs (i + 1))]) (rest := [.int (if okI (xs (i + 1)) 5 ∧ ¬ R (xs (i + 1)).toNatClampNeg 2 = 0 then 1 else 0)]) ⟨hx, hb, hml, hown, hts⟩ (MetS.at (k_X4_failed l dC dI o2 k2 R C an n f d g (xs (i + 1)))) (cwV 1 hts gL_law_X4_failed rfl rfl rfl (by decide +kernel) ⟨Nat.le_of_ble_eq_true rfl, Nat.le_of_ble_eq_true rfl⟩) (preSV hKm (va_PR hP) (va_recv hK hP (ci := 4) (q0 := 15) rfl rfl)) rfl rfl hl.1 rfl (lv_room (Nat.le_of_ble_eq_true rfl)) dL_law_390 ⟨Nat.le_of_ble_eq_true rfl, Nat.le_of_ble_eq_true rfl⟩) ?_
  refine lv_icmp_eq (tgt := 490) hx hb dL_law_393 (by decide) (fun c_393 => ?_) (fun c_393 => ?_)
  · exact kk ((R, C, n, f, d, g)) (an) H locs ls (inv_mono hI) hP hD hS (lv_sub hl [0, 1, 2, 3] rfl)
  · exact absurd rfl c_393
set_option maxHeartbeats 4000000 in
set_option maxRecDepth 100000 in
theorem lc_12 {p : Program} {l : Launch} {e : Env} {s : State} {m : MethodId} {below : List Frame} {meth : Method} {cd : Code} {dC : Nat → ClassId} {dI : Nat → Nat → Nat} {b L : Nat} {xs : Nat → Int32} {o : Nat → Nat} {k : Nat → ClassId} {o2 : Nat → Nat} {k2 : Nat → ClassId} {i q : Nat} (hx : p.tables.exec = Jvm.exec) (hb : cd.code = code) (hml : cd.maxLocals = 4) (hown : s.vm.findClass RL = some m.cls) (hts : ∀ w ∈ wsL_law, w.before #[Value.ref b] s = true) (hX : va_X b L xs s s.heap) (hbl : b < s.heap.size) (hK : va_K (dC, dI) vwCl (tyX k) s) (hKm : va_K (dC, dI) vwCl (tyM k2) s) (hiL : i + 3 ≤ L) (hL : L ≤ 1536) (hq : q ≤ 511) (R C : Nat → Nat → Int32) (n : Nat) (f : Nat → Int32) (d : Nat) (g an : Nat → Int32) (hI : Inv (R, C, n, f, d, g) an q) (H : Heap) (locs : List Loc) (ls : Array Slot) (hP : va_P (dC, dI) vwCl (wX o k R C n f d g ++ wMs o2 k2 (R, C, n, f, d, g) an) H) (hD : va_D (fun q : Nat => s.heap.size ≤ q) (wX o k R C n f d g ++ wMs o2 k2 (R, C, n, f, d, g) an)) (hS : va_S (fun q : Nat => s.heap.size ≤ q) s.heap H locs) (hl : lv_has ls 4 [(0, .ref b), (1, .ref (o 0)), (2, .ref (o2 0)), (3, .int (nI i))]) (kk : LK p l e s m below meth cd b dC dI o k o2 k2 i q) : LW p l e s m below meth cd b H locs (F0 m 398 ls []) := by
  have hA : ∀ q : Nat, s.heap.size ≤ q → (fun q : Nat => s.heap.size ≤ q) q := fun _ h => h
  have hbA : ¬ (fun q : Nat => s.heap.size ≤ q) b := Nat.not_le.mpr hbl
  have hn := inv_n hI
  have hm := inv_m hI
  have ha := inv_a hI
  have hroom := inv_room hI
  have hdn := inv_dn hI hq
  have hd := inv_d hI hq
  have hAn := inv_an hI
  have hfl := inv_fl hI
  unfold LW
  refine lv_aload_n hx hb dL_law_398 rfl (lv_at hl 1 rfl) ?_
  refine lv_aload_n hx hb dL_law_399 rfl (lv_at hl 0 rfl) ?_
  refine lv_iload_n hx hb dL_law_400 rfl (lv_at hl 3 rfl) ?_
  refine lv_iconst (v := nI 1) hx hb dL_law_401 (by decide) ?_
  refine lv_iadd hx hb dL_law_402 ?_
  refine qtop (y := nI (i + 1)) (nI_add _ _) ?_
  refine q_sld hx hb hX hbl hbA hS (j := i + 1) (by omega) (by omega) dL_law_403 ?_
  refine goS (va_runV (rm := ({ frames := 1, cells := 0, slots := 0, locals := 20 } : Room)) (As := [.int (xs (i + 1))]) (rest := []) ⟨hx, hb, hml, hown, hts⟩ (MetS.at (k_X3_phase l dC dI o k R C n f d g (xs (i + 1)))) (cwV 1 hts gL_law_X3_phase rfl rfl rfl (by decide +kernel) ⟨Nat.le_of_ble_eq_true rfl, Nat.le_of_ble_eq_true rfl⟩) (preSV hK (va_PL hP) (va_recv hK hP (ci := 3) (q0 := 0) rfl rfl)) rfl rfl hl.1 rfl (lv_room (Nat.le_of_ble_eq_true rfl)) dL_law_404 ⟨Nat.le_of_ble_eq_true rfl, Nat.le_of_ble_eq_true rfl⟩) ?_
  refine lv_aload_n hx hb dL_law_407 rfl (lv_at hl 2 rfl) ?_
  refine lv_aload_n hx hb dL_law_408 rfl (lv_at hl 0 rfl) ?_
  refine lv_iload_n hx hb dL_law_409 rfl (lv_at hl 3 rfl) ?_
  refine lv_iconst (v := nI 1) hx hb dL_law_410 (by decide) ?_
  refine lv_iadd hx hb dL_law_411 ?_
  refine qtop (y := nI (i + 1)) (nI_add _ _) ?_
  refine q_sld hx hb hX hbl hbA hS (j := i + 1) (by omega) (by omega) dL_law_412 ?_
  refine goS (va_runV (rm := ({ frames := 1, cells := 0, slots := 0, locals := 22 } : Room)) (As := [.int (xs (i + 1))]) (rest := [.int (if okI (xs (i + 1)) 3 then C (xs (i + 1)).toNatClampNeg 0 else (-1))]) ⟨hx, hb, hml, hown, hts⟩ (MetS.at (k_X4_phase l dC dI o2 k2 R C an n f d g (xs (i + 1)))) (cwV 1 hts gL_law_X4_phase rfl rfl rfl (by decide +kernel) ⟨Nat.le_of_ble_eq_true rfl, Nat.le_of_ble_eq_true rfl⟩) (preSV hKm (va_PR hP) (va_recv hK hP (ci := 4) (q0 := 15) rfl rfl)) rfl rfl hl.1 rfl (lv_room (Nat.le_of_ble_eq_true rfl)) dL_law_413 ⟨Nat.le_of_ble_eq_true rfl, Nat.le_of_ble_eq_true rfl⟩) ?_
  refine lv_icmp_eq (tgt := 490) hx hb dL_law_416 (by decide) (fun c_416 => ?_) (fun c_416 => ?_)
  · exact kk ((R, C, n, f, d, g)) (an) H locs ls (inv_mono hI) hP hD hS (lv_sub hl [0, 1, 2, 3] rfl)
  · exact absurd rfl c_416
set_option maxHeartbeats 4000000 in
set_option maxRecDepth 100000 in
theorem lc_13 {p : Program} {l : Launch} {e : Env} {s : State} {m : MethodId} {below : List Frame} {meth : Method} {cd : Code} {dC : Nat → ClassId} {dI : Nat → Nat → Nat} {b L : Nat} {xs : Nat → Int32} {o : Nat → Nat} {k : Nat → ClassId} {o2 : Nat → Nat} {k2 : Nat → ClassId} {i q : Nat} (hx : p.tables.exec = Jvm.exec) (hb : cd.code = code) (hml : cd.maxLocals = 4) (hown : s.vm.findClass RL = some m.cls) (hts : ∀ w ∈ wsL_law, w.before #[Value.ref b] s = true) (hX : va_X b L xs s s.heap) (hbl : b < s.heap.size) (hK : va_K (dC, dI) vwCl (tyX k) s) (hKm : va_K (dC, dI) vwCl (tyM k2) s) (hiL : i + 3 ≤ L) (hL : L ≤ 1536) (hq : q ≤ 511) (R C : Nat → Nat → Int32) (n : Nat) (f : Nat → Int32) (d : Nat) (g an : Nat → Int32) (hI : Inv (R, C, n, f, d, g) an q) (H : Heap) (locs : List Loc) (ls : Array Slot) (hP : va_P (dC, dI) vwCl (wX o k R C n f d g ++ wMs o2 k2 (R, C, n, f, d, g) an) H) (hD : va_D (fun q : Nat => s.heap.size ≤ q) (wX o k R C n f d g ++ wMs o2 k2 (R, C, n, f, d, g) an)) (hS : va_S (fun q : Nat => s.heap.size ≤ q) s.heap H locs) (hl : lv_has ls 4 [(0, .ref b), (1, .ref (o 0)), (2, .ref (o2 0)), (3, .int (nI i))]) (kk : LK p l e s m below meth cd b dC dI o k o2 k2 i q) : LW p l e s m below meth cd b H locs (F0 m 421 ls []) := by
  have hA : ∀ q : Nat, s.heap.size ≤ q → (fun q : Nat => s.heap.size ≤ q) q := fun _ h => h
  have hbA : ¬ (fun q : Nat => s.heap.size ≤ q) b := Nat.not_le.mpr hbl
  have hn := inv_n hI
  have hm := inv_m hI
  have ha := inv_a hI
  have hroom := inv_room hI
  have hdn := inv_dn hI hq
  have hd := inv_d hI hq
  have hAn := inv_an hI
  have hfl := inv_fl hI
  unfold LW
  refine lv_aload_n hx hb dL_law_421 rfl (lv_at hl 1 rfl) ?_
  refine lv_aload_n hx hb dL_law_422 rfl (lv_at hl 0 rfl) ?_
  refine lv_iload_n hx hb dL_law_423 rfl (lv_at hl 3 rfl) ?_
  refine lv_iconst (v := nI 1) hx hb dL_law_424 (by decide) ?_
  refine lv_iadd hx hb dL_law_425 ?_
  refine qtop (y := nI (i + 1)) (nI_add _ _) ?_
  refine q_sld hx hb hX hbl hbA hS (j := i + 1) (by omega) (by omega) dL_law_426 ?_
  refine goS (va_runV (rm := ({ frames := 1, cells := 0, slots := 0, locals := 20 } : Room)) (As := [.int (xs (i + 1))]) (rest := []) ⟨hx, hb, hml, hown, hts⟩ (MetS.at (k_X3_answered l dC dI o k R C n f d g (xs (i + 1)))) (cwV 1 hts gL_law_X3_answered rfl rfl rfl (by decide +kernel) ⟨Nat.le_of_ble_eq_true rfl, Nat.le_of_ble_eq_true rfl⟩) (preSV hK (va_PL hP) (va_recv hK hP (ci := 3) (q0 := 0) rfl rfl)) rfl rfl hl.1 rfl (lv_room (Nat.le_of_ble_eq_true rfl)) dL_law_427 ⟨Nat.le_of_ble_eq_true rfl, Nat.le_of_ble_eq_true rfl⟩) ?_
  refine lv_aload_n hx hb dL_law_430 rfl (lv_at hl 2 rfl) ?_
  refine lv_aload_n hx hb dL_law_431 rfl (lv_at hl 0 rfl) ?_
  refine lv_iload_n hx hb dL_law_432 rfl (lv_at hl 3 rfl) ?_
  refine lv_iconst (v := nI 1) hx hb dL_law_433 (by decide) ?_
  refine lv_iadd hx hb dL_law_434 ?_
  refine qtop (y := nI (i + 1)) (nI_add _ _) ?_
  refine q_sld hx hb hX hbl hbA hS (j := i + 1) (by omega) (by omega) dL_law_435 ?_
  refine goS (va_runV (rm := ({ frames := 1, cells := 0, slots := 0, locals := 22 } : Room)) (As := [.int (xs (i + 1))]) (rest := [.int (if okI (xs (i + 1)) 3 then C (xs (i + 1)).toNatClampNeg 4 else (-1))]) ⟨hx, hb, hml, hown, hts⟩ (MetS.at (k_X4_answered l dC dI o2 k2 R C an n f d g (xs (i + 1)))) (cwV 1 hts gL_law_X4_answered rfl rfl rfl (by decide +kernel) ⟨Nat.le_of_ble_eq_true rfl, Nat.le_of_ble_eq_true rfl⟩) (preSV hKm (va_PR hP) (va_recv hK hP (ci := 4) (q0 := 15) rfl rfl)) rfl rfl hl.1 rfl (lv_room (Nat.le_of_ble_eq_true rfl)) dL_law_436 ⟨Nat.le_of_ble_eq_true rfl, Nat.le_of_ble_eq_true rfl⟩) ?_
  refine lv_icmp_eq (tgt := 490) hx hb dL_law_439 (by decide) (fun c_439 => ?_) (fun c_439 => ?_)
  · exact kk ((R, C, n, f, d, g)) (an) H locs ls (inv_mono hI) hP hD hS (lv_sub hl [0, 1, 2, 3] rfl)
  · exact absurd (inv_ans hI (xs (i + 1))) c_439
set_option maxHeartbeats 4000000 in
set_option maxRecDepth 100000 in
theorem lc_14 {p : Program} {l : Launch} {e : Env} {s : State} {m : MethodId} {below : List Frame} {meth : Method} {cd : Code} {dC : Nat → ClassId} {dI : Nat → Nat → Nat} {b L : Nat} {xs : Nat → Int32} {o : Nat → Nat} {k : Nat → ClassId} {o2 : Nat → Nat} {k2 : Nat → ClassId} {i q : Nat} (hx : p.tables.exec = Jvm.exec) (hb : cd.code = code) (hml : cd.maxLocals = 4) (hown : s.vm.findClass RL = some m.cls) (hts : ∀ w ∈ wsL_law, w.before #[Value.ref b] s = true) (hX : va_X b L xs s s.heap) (hbl : b < s.heap.size) (hK : va_K (dC, dI) vwCl (tyX k) s) (hKm : va_K (dC, dI) vwCl (tyM k2) s) (hiL : i + 3 ≤ L) (hL : L ≤ 1536) (hq : q ≤ 511) (R C : Nat → Nat → Int32) (n : Nat) (f : Nat → Int32) (d : Nat) (g an : Nat → Int32) (hI : Inv (R, C, n, f, d, g) an q) (H : Heap) (locs : List Loc) (ls : Array Slot) (hP : va_P (dC, dI) vwCl (wX o k R C n f d g ++ wMs o2 k2 (R, C, n, f, d, g) an) H) (hD : va_D (fun q : Nat => s.heap.size ≤ q) (wX o k R C n f d g ++ wMs o2 k2 (R, C, n, f, d, g) an)) (hS : va_S (fun q : Nat => s.heap.size ≤ q) s.heap H locs) (hl : lv_has ls 4 [(0, .ref b), (1, .ref (o 0)), (2, .ref (o2 0)), (3, .int (nI i))]) (kk : LK p l e s m below meth cd b dC dI o k o2 k2 i q) : LW p l e s m below meth cd b H locs (F0 m 444 ls []) := by
  have hA : ∀ q : Nat, s.heap.size ≤ q → (fun q : Nat => s.heap.size ≤ q) q := fun _ h => h
  have hbA : ¬ (fun q : Nat => s.heap.size ≤ q) b := Nat.not_le.mpr hbl
  have hn := inv_n hI
  have hm := inv_m hI
  have ha := inv_a hI
  have hroom := inv_room hI
  have hdn := inv_dn hI hq
  have hd := inv_d hI hq
  have hAn := inv_an hI
  have hfl := inv_fl hI
  unfold LW
  refine lv_aload_n hx hb dL_law_444 rfl (lv_at hl 1 rfl) ?_
  refine goS (va_runV (rm := ({ frames := 0, cells := 0, slots := 0, locals := 0 } : Room)) (As := []) (rest := []) ⟨hx, hb, hml, hown, hts⟩ (MetS.at (k_X3_finished l dC dI o k R C n f d g )) (cwV 0 hts gL_law_X3_finished rfl rfl rfl (by decide +kernel) ⟨Nat.le_of_ble_eq_true rfl, Nat.le_of_ble_eq_true rfl⟩) (preSV hK (va_PL hP) (va_recv hK hP (ci := 3) (q0 := 0) rfl rfl)) rfl rfl hl.1 rfl (lv_room (Nat.le_of_ble_eq_true rfl)) dL_law_445 ⟨Nat.le_of_ble_eq_true rfl, Nat.le_of_ble_eq_true rfl⟩) ?_
  refine lv_aload_n hx hb dL_law_448 rfl (lv_at hl 2 rfl) ?_
  refine goS (va_runV (rm := ({ frames := 0, cells := 0, slots := 0, locals := 0 } : Room)) (As := []) (rest := [.int (nI d)]) ⟨hx, hb, hml, hown, hts⟩ (MetS.at (k_X4_finished l dC dI o2 k2 R C an n f d g )) (cwV 0 hts gL_law_X4_finished rfl rfl rfl (by decide +kernel) ⟨Nat.le_of_ble_eq_true rfl, Nat.le_of_ble_eq_true rfl⟩) (preSV hKm (va_PR hP) (va_recv hK hP (ci := 4) (q0 := 15) rfl rfl)) rfl rfl hl.1 rfl (lv_room (Nat.le_of_ble_eq_true rfl)) dL_law_449 ⟨Nat.le_of_ble_eq_true rfl, Nat.le_of_ble_eq_true rfl⟩) ?_
  refine lv_icmp_eq (tgt := 490) hx hb dL_law_452 (by decide) (fun c_452 => ?_) (fun c_452 => ?_)
  · exact kk ((R, C, n, f, d, g)) (an) H locs ls (inv_mono hI) hP hD hS (lv_sub hl [0, 1, 2, 3] rfl)
  · exact absurd rfl c_452
set_option maxHeartbeats 4000000 in
set_option maxRecDepth 100000 in
theorem lc_15 {p : Program} {l : Launch} {e : Env} {s : State} {m : MethodId} {below : List Frame} {meth : Method} {cd : Code} {dC : Nat → ClassId} {dI : Nat → Nat → Nat} {b L : Nat} {xs : Nat → Int32} {o : Nat → Nat} {k : Nat → ClassId} {o2 : Nat → Nat} {k2 : Nat → ClassId} {i q : Nat} (hx : p.tables.exec = Jvm.exec) (hb : cd.code = code) (hml : cd.maxLocals = 4) (hown : s.vm.findClass RL = some m.cls) (hts : ∀ w ∈ wsL_law, w.before #[Value.ref b] s = true) (hX : va_X b L xs s s.heap) (hbl : b < s.heap.size) (hK : va_K (dC, dI) vwCl (tyX k) s) (hKm : va_K (dC, dI) vwCl (tyM k2) s) (hiL : i + 3 ≤ L) (hL : L ≤ 1536) (hq : q ≤ 511) (R C : Nat → Nat → Int32) (n : Nat) (f : Nat → Int32) (d : Nat) (g an : Nat → Int32) (hI : Inv (R, C, n, f, d, g) an q) (H : Heap) (locs : List Loc) (ls : Array Slot) (hP : va_P (dC, dI) vwCl (wX o k R C n f d g ++ wMs o2 k2 (R, C, n, f, d, g) an) H) (hD : va_D (fun q : Nat => s.heap.size ≤ q) (wX o k R C n f d g ++ wMs o2 k2 (R, C, n, f, d, g) an)) (hS : va_S (fun q : Nat => s.heap.size ≤ q) s.heap H locs) (hl : lv_has ls 4 [(0, .ref b), (1, .ref (o 0)), (2, .ref (o2 0)), (3, .int (nI i))]) (kk : LK p l e s m below meth cd b dC dI o k o2 k2 i q) : LW p l e s m below meth cd b H locs (F0 m 457 ls []) := by
  have hA : ∀ q : Nat, s.heap.size ≤ q → (fun q : Nat => s.heap.size ≤ q) q := fun _ h => h
  have hbA : ¬ (fun q : Nat => s.heap.size ≤ q) b := Nat.not_le.mpr hbl
  have hn := inv_n hI
  have hm := inv_m hI
  have ha := inv_a hI
  have hroom := inv_room hI
  have hdn := inv_dn hI hq
  have hd := inv_d hI hq
  have hAn := inv_an hI
  have hfl := inv_fl hI
  unfold LW
  refine lv_aload_n hx hb dL_law_457 rfl (lv_at hl 1 rfl) ?_
  refine lv_aload_n hx hb dL_law_458 rfl (lv_at hl 0 rfl) ?_
  refine lv_iload_n hx hb dL_law_459 rfl (lv_at hl 3 rfl) ?_
  refine lv_iconst (v := nI 1) hx hb dL_law_460 (by decide) ?_
  refine lv_iadd hx hb dL_law_461 ?_
  refine qtop (y := nI (i + 1)) (nI_add _ _) ?_
  refine q_sld hx hb hX hbl hbA hS (j := i + 1) (by omega) (by omega) dL_law_462 ?_
  refine lv_aload_n hx hb dL_law_463 rfl (lv_at hl 0 rfl) ?_
  refine lv_iload_n hx hb dL_law_464 rfl (lv_at hl 3 rfl) ?_
  refine lv_iconst (v := nI 2) hx hb dL_law_465 (by decide) ?_
  refine lv_iadd hx hb dL_law_466 ?_
  refine qtop (y := nI (i + 2)) (nI_add _ _) ?_
  refine q_sld hx hb hX hbl hbA hS (j := i + 2) (by omega) (by omega) dL_law_467 ?_
  refine goS (va_runV (rm := ({ frames := 2, cells := 0, slots := 0, locals := 43 } : Room)) (As := [.int (xs (i + 1)), .int (xs (i + 2))]) (rest := []) ⟨hx, hb, hml, hown, hts⟩ (MetS.at (k_X3_operation l dC dI o k R C n f d g hd (xs (i + 1)) (xs (i + 2)))) (cwV 2 hts gL_law_X3_operation rfl rfl rfl (by decide +kernel) ⟨Nat.le_of_ble_eq_true rfl, Nat.le_of_ble_eq_true rfl⟩) (preSV hK (va_PL hP) (va_recv hK hP (ci := 3) (q0 := 0) rfl rfl)) rfl rfl hl.1 rfl (lv_room (Nat.le_of_ble_eq_true rfl)) dL_law_468 ⟨Nat.le_of_ble_eq_true rfl, Nat.le_of_ble_eq_true rfl⟩) ?_
  refine lv_aload_n hx hb dL_law_471 rfl (lv_at hl 2 rfl) ?_
  refine lv_aload_n hx hb dL_law_472 rfl (lv_at hl 0 rfl) ?_
  refine lv_iload_n hx hb dL_law_473 rfl (lv_at hl 3 rfl) ?_
  refine lv_iconst (v := nI 1) hx hb dL_law_474 (by decide) ?_
  refine lv_iadd hx hb dL_law_475 ?_
  refine qtop (y := nI (i + 1)) (nI_add _ _) ?_
  refine q_sld hx hb hX hbl hbA hS (j := i + 1) (by omega) (by omega) dL_law_476 ?_
  refine lv_aload_n hx hb dL_law_477 rfl (lv_at hl 0 rfl) ?_
  refine lv_iload_n hx hb dL_law_478 rfl (lv_at hl 3 rfl) ?_
  refine lv_iconst (v := nI 2) hx hb dL_law_479 (by decide) ?_
  refine lv_iadd hx hb dL_law_480 ?_
  refine qtop (y := nI (i + 2)) (nI_add _ _) ?_
  refine q_sld hx hb hX hbl hbA hS (j := i + 2) (by omega) (by omega) dL_law_481 ?_
  refine goS (va_runV (rm := ({ frames := 1, cells := 0, slots := 0, locals := 22 } : Room)) (As := [.int (xs (i + 1)), .int (xs (i + 2))]) (rest := [.int (if okI (xs (i + 1)) d then (if okI (xs (i + 2)) 5 then g ((xs (i + 1)).toNatClampNeg * 5 + (xs (i + 2)).toNatClampNeg) else 0) else (-1))]) ⟨hx, hb, hml, hown, hts⟩ (MetS.at (k_X4_operation l dC dI o2 k2 R C an n f d g hd (xs (i + 1)) (xs (i + 2)))) (cwV 2 hts gL_law_X4_operation rfl rfl rfl (by decide +kernel) ⟨Nat.le_of_ble_eq_true rfl, Nat.le_of_ble_eq_true rfl⟩) (preSV hKm (va_PR hP) (va_recv hK hP (ci := 4) (q0 := 15) rfl rfl)) rfl rfl hl.1 rfl (lv_room (Nat.le_of_ble_eq_true rfl)) dL_law_482 ⟨Nat.le_of_ble_eq_true rfl, Nat.le_of_ble_eq_true rfl⟩) ?_
  refine lv_icmp_eq (tgt := 490) hx hb dL_law_485 (by decide) (fun c_485 => ?_) (fun c_485 => ?_)
  · exact kk ((R, C, n, f, d, g)) (an) H locs ls (inv_mono hI) hP hD hS (lv_sub hl [0, 1, 2, 3] rfl)
  · exact absurd rfl c_485
