/-! THE STATE: R (replica, field), C (client, field), n messages in f (six ints each), d finished operations in g (five ints each); its cells (wX), a part's cells (wR: Rows, wC: a client) -/
abbrev St : Type := (Nat → Nat → Int32) × (Nat → Nat → Int32) × Nat × (Nat → Int32) × Nat × (Nat → Int32)
def wR (h hc : Nat) (kA : ClassId) (w mo n : Nat) (f : Nat → Int32) : va_W := [(h, .inr (2, [.int (nI w), .int (nI mo), .ref hc, .int (nI n)])), (hc, .inl (kA, w * mo, .inl f))]
def wC (h : Nat) (F : Nat → Int32) : va_W := [(h, .inr (0, [.int (F 0), .int (F 1), .int (F 2), .int (F 3), .int (F 4), .int (F 5), .int (F 6), .int (F 7)]))]
def wX (o : Nat → Nat) (k : Nat → ClassId) (R C : Nat → Nat → Int32) (n : Nat) (f : Nat → Int32) (d : Nat) (g : Nat → Int32) : va_W :=
  [(o 0, .inr (3, [.ref (o 1), .ref (o 2), .ref (o 3), .ref (o 5)])),
   (o 1, .inl (k 0, 5, .inr (.inr (.inr (.inr (fun j => some (o (7 + j)))))))),
   (o 2, .inl (k 1, 3, .inr (.inr (.inr (.inr (fun j => some (o (12 + j)))))))),
   (o 3, .inr (2, [.int (nI 6), .int (nI 77), .ref (o 4), .int (nI n)])),
   (o 4, .inl (k 2, 6 * 77, .inl f)),
   (o 5, .inr (2, [.int (nI 5), .int (nI 39), .ref (o 6), .int (nI d)])),
   (o 6, .inl (k 3, 5 * 39, .inl g)),
   (o 7, .inr (1, [.int (R 0 0), .int (R 0 1), .int (R 0 2)])),
   (o 8, .inr (1, [.int (R 1 0), .int (R 1 1), .int (R 1 2)])),
   (o 9, .inr (1, [.int (R 2 0), .int (R 2 1), .int (R 2 2)])),
   (o 10, .inr (1, [.int (R 3 0), .int (R 3 1), .int (R 3 2)])),
   (o 11, .inr (1, [.int (R 4 0), .int (R 4 1), .int (R 4 2)])),
   (o 12, .inr (0, [.int (C 0 0), .int (C 0 1), .int (C 0 2), .int (C 0 3), .int (C 0 4), .int (C 0 5), .int (C 0 6), .int (C 0 7)])),
   (o 13, .inr (0, [.int (C 1 0), .int (C 1 1), .int (C 1 2), .int (C 1 3), .int (C 1 4), .int (C 1 5), .int (C 1 6), .int (C 1 7)])),
   (o 14, .inr (0, [.int (C 2 0), .int (C 2 1), .int (C 2 2), .int (C 2 3), .int (C 2 4), .int (C 2 5), .int (C 2 6), .int (C 2 7)]))]
def wS (o : Nat → Nat) (k : Nat → ClassId) (σ : St) : va_W := wX o k σ.1 σ.2.1 σ.2.2.1 σ.2.2.2.1 σ.2.2.2.2.1 σ.2.2.2.2.2
def tyX (k : Nat → ClassId) : List (ClassId × FieldType) := [(k 0, .object "QuorumRegister$Replica"), (k 1, .object "QuorumRegister$Client"), (k 2, .int), (k 3, .int)]
theorem lt5 {j : Nat} (h : j < 5) : j = 0 ∨ j = 1 ∨ j = 2 ∨ j = 3 ∨ j = 4 := by omega
theorem lt3 {j : Nat} (h : j < 3) : j = 0 ∨ j = 1 ∨ j = 2 := by omega
section WX
variable {o : Nat → Nat} {k : Nat → ClassId} {R C : Nat → Nat → Int32} {n d : Nat} {f g : Nat → Int32}
theorem wX_R {j : Nat} (h : j < 5) : (wX o k R C n f d g)[7 + j]? = some (o (7 + j), .inr (1, [.int (R j 0), .int (R j 1), .int (R j 2)])) := by
  rcases lt5 h with rfl | rfl | rfl | rfl | rfl <;> rfl
theorem wX_C {j : Nat} (h : j < 3) : (wX o k R C n f d g)[12 + j]? = some (o (12 + j), .inr (0, [.int (C j 0), .int (C j 1), .int (C j 2), .int (C j 3), .int (C j 4), .int (C j 5), .int (C j 6), .int (C j 7)])) := by
  rcases lt3 h with rfl | rfl | rfl <;> rfl
theorem wX_setR {j : Nat} (h : j < 5) {R' : Nat → Nat → Int32} (v0 v1 v2 : Int32) (hv : [R' j 0, R' j 1, R' j 2] = [v0, v1, v2]) (ho : ∀ a b, a ≠ j → R' a b = R a b) : (wX o k R C n f d g).set (7 + j) (o (7 + j), .inr (1, [.int v0, .int v1, .int v2])) = wX o k R' C n f d g := by
  simp only [List.cons.injEq, and_true] at hv
  obtain ⟨rfl, rfl, rfl⟩ := hv
  rcases lt5 h with rfl | rfl | rfl | rfl | rfl <;> simp only [wX, List.set, Nat.reduceAdd] <;> simp [ho]
theorem wX_setC {j : Nat} (h : j < 3) {C' : Nat → Nat → Int32} (v0 v1 v2 v3 v4 v5 v6 v7 : Int32) (hv : [C' j 0, C' j 1, C' j 2, C' j 3, C' j 4, C' j 5, C' j 6, C' j 7] = [v0, v1, v2, v3, v4, v5, v6, v7]) (ho : ∀ a b, a ≠ j → C' a b = C a b) : (wX o k R C n f d g).set (12 + j) (o (12 + j), .inr (0, [.int v0, .int v1, .int v2, .int v3, .int v4, .int v5, .int v6, .int v7])) = wX o k R C' n f d g := by
  simp only [List.cons.injEq, and_true] at hv
  obtain ⟨rfl, rfl, rfl, rfl, rfl, rfl, rfl, rfl⟩ := hv
  rcases lt3 h with rfl | rfl | rfl <;> simp only [wX, List.set, Nat.reduceAdd] <;> simp [ho]
end WX
theorem va_P1 {D : va_G} {cl : List vw_C} {ws : va_W} {H : Heap} {i : Nat} {q : Nat × va_E} (h : va_P D cl ws H) (hi : ws[i]? = some q) : va_P D cl [q] H := by
  intro j p hj
  match j, hj with
  | 0, hj => cases hj; exact h i _ hi
theorem va_D1 {q : Nat × va_E} : va_D (fun _ => True) [q] := by
  refine ⟨fun i j p p' hi hj _ => ?_, fun _ _ _ => trivial⟩
  match i, hi, j, hj with
  | 0, _, 0, _ => rfl
theorem MetV.at {l : Launch} {y : MethodName} {ws : List Cond} {rm : Room} {D : va_G} {cl : List vw_C} {w w' : va_W} {tys : List (ClassId × FieldType)} {av : List Value} (h : MetV l y ws rm D cl w tys av w') (sz : Nat) : Met l y ws rm (qW D cl w tys sz av) (qQv D cl w' (va_A w sz)) 0 0 (va_A w sz) := h sz
theorem MetI.at {l : Launch} {y : MethodName} {ws : List Cond} {rm : Room} {D : va_G} {cl : List vw_C} {w w' : va_W} {tys : List (ClassId × FieldType)} {av : List Value} {x : Int32} (h : MetI l y ws rm D cl w tys av x w') (sz : Nat) : Met l y ws rm (qW D cl w tys sz av) (qQi D cl w' (va_A w sz) x) 0 0 (va_A w sz) := h sz
theorem MetS.at {l : Launch} {y : MethodName} {ws : List Cond} {rm : Room} {D : va_G} {cl : List vw_C} {w : va_W} {tys : List (ClassId × FieldType)} {av : List Value} {x : Int32} (h : MetS l y ws rm D cl w tys av x) : Met l y ws rm (qS D cl w tys av) (vp_Si (fun r => r = x)) 0 0 (fun _ => False) := h
section QT
variable {p : Program} {l : Launch} {e : Env} {R : Room} {s : State} {m : MethodId} {args : Array Value} {below : List Frame} {meth : Method} {c : Code} {H H0 : Heap} {locs : List Loc} {cells slots : Nat} {Q : State → Prop} {cc : ByteArray} {pc : Nat} {ls : Array Slot} {rest : List Value} {D : va_G} {cl : List vw_C} {ws ws' : va_W} {tys : List (ClassId × FieldType)} {A : Nat → Prop}
theorem qtop {x y : Int32} (h : x = y) (kk : W p l e R s m args below meth c H locs cells slots Q (F0 m pc ls (.int y :: rest))) : W p l e R s m args below meth c H locs cells slots Q (F0 m pc ls (.int x :: rest)) := by
  rw [h]
  exact kk
theorem q_put (hexec : p.tables.exec = Jvm.exec) (hb : c.code = cc) {own ref C : String} {T : u_T} {N ci index : Nat} {Ts : List Cond} (hts : ∀ w ∈ Ts, w.before args s = true) (hin : ∀ w ∈ u_ws C T N, w ∈ Ts) (ty0 : Nat → FieldType) (hty : ∀ k, k < N → parseFieldDescriptor (T k).2.2.1 = some (ty0 k)) (hnm : ∀ a, a < N → ∀ b, b < N → a ≠ b → (T a).2.1 ≠ (T b).2.1) (hown : s.vm.findClass own = some m.cls) (hK : va_K D cl tys s) (hP : va_P D cl ws H) (hD : va_D A ws) (hS0 : va_S A H0 H locs) (q0 : Nat) {a : Nat} {fs : List Value} (he : ws[q0]? = some (a, .inr (ci, fs))) (hc : cl[ci]? = some (C, T, N)) (k : Nat) (hk : k < N) (hlink : (Cond.fieldLink own index ref (T k).2.1 (T k).2.2.1).before args s = true) (hsame : ∀ x, s.fieldFound? (T k).1 (T k).2.1 (T k).2.2.1 = some x → s.fieldFound? ref (T k).2.1 (T k).2.2.1 = some x) (hfin : (T k).2.2.2 = false) {ty : FieldType} {v : Value} (hd : parseFieldDescriptor (T k).2.2.1 = some ty) (hn : narrow ty v = v) (hfit : fits ty v = true) (hl : k < fs.length) (heq : ws.set q0 (a, .inr (ci, fs.set k v)) = ws') (hdg : decode cc pc = .ok (.putfield index, 3)) (kk : ∀ (H1 : Heap) (locs1 : List Loc), va_P D cl ws' H1 → va_D A ws' → va_S A H0 H1 locs1 → W p l e R s m args below meth c H1 locs1 cells slots Q (F0 m (pc + 3) ls rest)) : W p l e R s m args below meth c H locs cells slots Q (F0 m pc ls (v :: .ref a :: rest)) := by
  subst heq
  exact va_put hexec hb hts hin ty0 hty hnm hown hK hP hD hS0 q0 he hc k hk hlink hsame hfin hd hn hfit hl hdg kk
end QT
theorem it_yes {P : Prop} [Decidable P] (h : ¬ (if P then (1 : Int32) else 0) = 0) : P := by
  by_cases q : P
  · exact q
  · exact absurd (if_neg q) h
theorem it_no {P : Prop} [Decidable P] (h : (if P then (1 : Int32) else 0) = 0) : ¬ P := fun q => absurd ((if_pos q).symm.trans h) (by decide)
abbrev okI (i : Int32) (n : Nat) : Prop := ¬ i < 0 ∧ ¬ nI n ≤ i
theorem okI_of {i : Int32} {n : Nat} (h : okI i n) (hn : n < 2 ^ 31) : ∃ j : Nat, j < n ∧ i = nI j := by
  rcases pk_ix i hn with h1 | h1 | h1
  · exact absurd h1 h.1
  · exact absurd h1 h.2
  · exact h1
theorem okI_nI {j n : Nat} (h : j < n) (hn : n < 2 ^ 31) : okI (nI j) n := ⟨nI_pos (by omega), nI_ge h hn⟩
theorem rows_ix {i n mo w j : Nat} (hi : i < n) (hn : n ≤ mo) (hj : j < w) : i * w + j < w * mo := by
  have h1 : (i + 1) * w ≤ mo * w := Nat.mul_le_mul_right w (by omega)
  rw [Nat.add_mul, Nat.mul_comm mo w] at h1
  omega
section QU
variable {p : Program} {l : Launch} {e : Env} {R : Room} {s : State} {m : MethodId} {args : Array Value} {below : List Frame} {meth : Method} {c : Code} {H H0 : Heap} {locs : List Loc} {cells slots : Nat} {Q : State → Prop} {cc : ByteArray} {pc : Nat} {ls : Array Slot} {rest : List Value} {D : va_G} {cl : List vw_C} {ws ws' : va_W} {tys : List (ClassId × FieldType)} {A : Nat → Prop}
theorem q_zast (hx : p.tables.exec = Jvm.exec) (hb : c.code = cc) (hK : va_K D cl tys s) (hP : va_P D cl ws H) (hD : va_D A ws) (hS : va_S A H0 H locs) (q0 t0 : Nat) {a : Nat} {cA : ClassId} {n j : Nat} {f : Nat → Int32} {x : Int32} (ha : ws[q0]? = some (a, .inl (cA, n, .inl f))) (ht : tys[t0]? = some (cA, .boolean)) (hj : j < n) (hn : n < 2 ^ 31) (hz : vp_nar .boolean x = x) (he : ws.set q0 (a, .inl (cA, n, .inl (upd f j x))) = ws') (hdg : decode cc pc = .ok (.bastore, 1)) (kk : ∀ (H1 : Heap) (locs1 : List Loc), va_P D cl ws' H1 → va_D A ws' → va_S A H0 H1 locs1 → W p l e R s m args below meth c H1 locs1 cells slots Q (F0 m (pc + 1) ls rest)) : W p l e R s m args below meth c H locs cells slots Q (F0 m pc ls (.int x :: .int (nI j) :: .ref a :: rest)) := by
  subst he
  refine va_zast hx hb hK hP hD hS q0 t0 ha ht (vp_in_nI hj hn) hdg (fun H1 locs1 hP1 hD1 hS1 => ?_)
  rw [nI_clamp (by omega), hz] at hP1 hD1
  exact kk H1 locs1 hP1 hD1 hS1
theorem q_copy (hx : p.tables.exec = Jvm.exec) (hb : c.code = cc) (hml : c.maxLocals = ls.size) {own : String} {index : Nat} (hown : s.vm.findClass own = some m.cls) (hlink : (Cond.methodLink own index arraycopyName).before args s = true) (hnat : (Cond.native arraycopyName).before args s = true) (hstat : (Cond.static arraycopyName).before args s = true) (hini : (Cond.initialized "java/lang/System").before args s = true) (hK : va_K D cl tys s) (hP : va_P D cl ws H) (hD : va_D A ws) (hS : va_S A H0 H locs) (q0 q1 t0 t1 : Nat) {a a0 : Nat} {c0 c1 : ClassId} {n0 n1 : Nat} {f g : Nat → Int32} {sp dp n : Nat} (ha0 : ws[q0]? = some (a0, .inl (c0, n0, .inl f))) (ha1 : ws[q1]? = some (a, .inl (c1, n1, .inl g))) (ht0 : tys[t0]? = some (c0, .int)) (ht1 : tys[t1]? = some (c1, .int)) (h4 : sp + n ≤ n0) (h5 : dp + n ≤ n1) (hn0 : n0 < 2 ^ 31) (hn1 : n1 < 2 ^ 31) (hframes : 1 ≤ R.frames) (hlocals : (rest.map fun v => v.category).sum + (nativeFrameWords "java/lang/System" "arraycopy" 5 + 11) ≤ R.locals) (he : ws.set q1 (a, .inl (c1, n1, .inl (va_cpy f g sp dp n))) = ws') (hdg : decode cc pc = .ok (.invokestatic index, 3)) (kk : ∀ (H1 : Heap) (locs1 : List Loc), va_P D cl ws' H1 → va_D A ws' → va_S A H0 H1 locs1 → W p l e R s m args below meth c H1 locs1 cells slots Q (F0 m (pc + 3) ls rest)) : W p l e R s m args below meth c H locs cells slots Q (F0 m pc ls (.int (nI n) :: .int (nI dp) :: .ref a :: .int (nI sp) :: .ref a0 :: rest)) := by
  subst he
  have e1 : (nI sp).toNatClampNeg = sp := nI_clamp (by omega)
  have e2 : (nI dp).toNatClampNeg = dp := nI_clamp (by omega)
  have e3 : (nI n).toNatClampNeg = n := nI_clamp (by omega)
  refine va_copyi (ty := .int) hx hb hml hown hlink hnat hstat hini hK hP hD hS q0 q1 t0 t1 ha0 ha1 ht0 ht1 rfl (nI_pos (by omega)) (nI_pos (by omega)) (nI_pos (by omega)) (by rw [e1, e3]; exact h4) (by rw [e2, e3]; exact h5) (fun i _ => rfl) hframes hlocals hdg (fun H1 locs1 hP1 hD1 hS1 => ?_)
  rw [e1, e2, e3] at hP1 hD1
  exact kk H1 locs1 hP1 hD1 hS1
end QU
theorem va_P0 {D : va_G} {cl : List vw_C} {H : Heap} : va_P D cl [] H := fun k q h => by simp at h
