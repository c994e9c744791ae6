/-! THE REFERENCE'S CELLS: the same state, its sets of answers apart (an) -/
def wMc (o : Nat → Nat) (k : Nat → ClassId) (r0 r1 r2 c0 c1 c2 c3 an c5 c6 c7 f g : Nat → Int32) (fl n d : Nat) : va_W :=
  [(o 0, .inr (4, [.ref (o 1), .ref (o 2), .ref (o 3), .int (nI fl), .ref (o 4), .ref (o 5), .ref (o 6), .ref (o 7), .ref (o 8), .ref (o 9), .ref (o 10), .ref (o 11), .ref (o 12), .int (nI n), .ref (o 13), .int (nI d)])),
   (o 1, .inl (k 1, 5, .inl r0)), (o 2, .inl (k 2, 5, .inl r1)), (o 3, .inl (k 3, 5, .inl r2)),
   (o 4, .inl (k 4, 3, .inl c0)), (o 5, .inl (k 5, 3, .inl c1)), (o 6, .inl (k 6, 3, .inl c2)), (o 7, .inl (k 7, 3, .inl c3)), (o 8, .inl (k 8, 3, .inl an)), (o 9, .inl (k 9, 3, .inl c5)), (o 10, .inl (k 10, 3, .inl c6)), (o 11, .inl (k 11, 3, .inl c7)),
   (o 12, .inl (k 12, 600, .inl f)), (o 13, .inl (k 13, 2560, .inl g))]
def wM (o : Nat → Nat) (k : Nat → ClassId) (R C : Nat → Nat → Int32) (an : Nat → Int32) (n : Nat) (f : Nat → Int32) (d : Nat) (g : Nat → Int32) (fl : Nat) : va_W :=
  wMc o k (fun j => R j 0) (fun j => R j 1) (fun j => R j 2) (fun j => C j 0) (fun j => C j 1) (fun j => C j 2) (fun j => C j 3) an (fun j => C j 5) (fun j => C j 6) (fun j => C j 7) f g fl n d
def wMs (o : Nat → Nat) (k : Nat → ClassId) (σ : St) (an : Nat → Int32) : va_W := wM o k σ.1 σ.2.1 an σ.2.2.1 σ.2.2.2.1 σ.2.2.2.2.1 σ.2.2.2.2.2 (cnF σ.1 5)
def tyM (k : Nat → ClassId) : List (ClassId × FieldType) := [(k 1, .int), (k 2, .int), (k 3, .boolean), (k 4, .int), (k 5, .int), (k 6, .boolean), (k 7, .int), (k 8, .int), (k 9, .int), (k 10, .int), (k 11, .int), (k 12, .int), (k 13, .int)]
theorem wM_of {o : Nat → Nat} {k : Nat → ClassId} {R C : Nat → Nat → Int32} {r0 r1 r2 c0 c1 c2 c3 an c5 c6 c7 f g : Nat → Int32} {fl n d : Nat} (h0 : ∀ j, r0 j = R j 0) (h1 : ∀ j, r1 j = R j 1) (h2 : ∀ j, r2 j = R j 2) (g0 : ∀ j, c0 j = C j 0) (g1 : ∀ j, c1 j = C j 1) (g2 : ∀ j, c2 j = C j 2) (g3 : ∀ j, c3 j = C j 3) (g5 : ∀ j, c5 j = C j 5) (g6 : ∀ j, c6 j = C j 6) (g7 : ∀ j, c7 j = C j 7) : wMc o k r0 r1 r2 c0 c1 c2 c3 an c5 c6 c7 f g fl n d = wM o k R C an n f d g fl := by
  rw [funext h0, funext h1, funext h2, funext g0, funext g1, funext g2, funext g3, funext g5, funext g6, funext g7]
  rfl
theorem va_Pe {D : va_G} {cl : List vw_C} {w w' : va_W} {H : Heap} (e : w = w') (h : va_P D cl w H) : va_P D cl w' H := e ▸ h
/-- a write's contract with the reference's sets of answers behind it left open -/
def qQj (D : va_G) (cl : List vw_C) (B : (Nat → Int32) → va_W) (Pn : (Nat → Int32) → Prop) (A : Nat → Prop) (x : Int32) : Array Value → State → Outcome → State → Prop := va_Qi (fun (r : Int32) (u : Nat → Int32) => r = x ∧ Pn u) (fun u t => va_P D cl (B u) t.heap) A
def MetJ (l : Launch) (y : MethodName) (ws : List Cond) (rm : Room) (D : va_G) (cl : List vw_C) (w : va_W) (tys : List (ClassId × FieldType)) (av : List Value) (x : Int32) (B : (Nat → Int32) → va_W) (Pn : (Nat → Int32) → Prop) : Prop := ∀ sz : Nat, Met l y ws rm (qW D cl w tys sz av) (qQj D cl B Pn (va_A w sz) x) 0 0 (va_A w sz)
theorem MetJ.at {l : Launch} {y : MethodName} {ws : List Cond} {rm : Room} {D : va_G} {cl : List vw_C} {w : va_W} {tys : List (ClassId × FieldType)} {av : List Value} {x : Int32} {B : (Nat → Int32) → va_W} {Pn : (Nat → Int32) → Prop} (h : MetJ l y ws rm D cl w tys av x B Pn) (sz : Nat) : Met l y ws rm (qW D cl w tys sz av) (qQj D cl B Pn (va_A w sz) x) 0 0 (va_A w sz) := h sz
theorem MetJ.of {l : Launch} {y : MethodName} {ws ws' : List Cond} {rm : Room} {D : va_G} {cl : List vw_C} {w : va_W} {B : (Nat → Int32) → va_W} {Pn : (Nat → Int32) → Prop} {tys : List (ClassId × FieldType)} {av : List Value} {x : Int32} {cc : ByteArray} {maxL : Nat} {ret : Option FieldType} {lv : List (Nat × Value)}
    (hy : plainName y.cls = true) (hw : ws = Cond.code y cc maxL ret :: ws') (hlen : (lg_sl av).length ≤ maxL) (hlv : lv_args 0 av = lv)
    (body : ∀ (p : Program) (e : Env) (s : State) (m : MethodId) (below : List Frame) (meth : Method) (c : Code) (ls : Array Slot) (A : Nat → Prop), p.tables.exec = Jvm.exec → c.code = cc → meth.sig.returnType = ret → meth.locks = false → c.maxLocals = maxL → s.vm.findClass y.cls = some m.cls → (∀ w ∈ ws, w.before av.toArray s = true) → va_K D cl tys s → va_P D cl w s.heap → va_D A w → va_S A s.heap s.heap [] → (∀ q, s.heap.size ≤ q → A q) → lv_has ls maxL lv →
      W p l e rm s m av.toArray below meth c s.heap [] 0 0 (MQ below (qQj D cl B Pn A x) av.toArray s 0 0 A) (F0 m 0 ls [])) : MetJ l y ws rm D cl w tys av x B Pn := by
  intro sz
  refine Met.ofW (cc := cc) (maxL := maxL) (ret := ret) hy hw ?_
  intro p e s m args below meth c s₁ B' hml hv
  obtain ⟨rfl, hsz, hP, hK, hD0⟩ := hv
  subst hsz
  have hl := lv_entry av (n := maxL) hlen
  rw [hlv] at hl
  rw [lg_entry_eq]
  exact body p e s m below meth c _ _ B'.exec B'.bytes B'.returns B'.notSynchronized hml (findClass_of_methodNamed B'.named) (atoms_spec (ws := ws) B'.pre) hK hP (hD0.self (sz := s.heap.size)) va_S.rf (fun q h => Or.inr h) hl
section QJ
variable {p : Program} {l : Launch} {e : Env} {R : Room} {s : State} {m : MethodId} {args : Array Value} {below : List Frame} {meth : Method} {c : Code} {H H0 : Heap} {locs : List Loc} {cells slots : Nat} {Q : State → Prop} {cc : ByteArray} {pc : Nat} {ls : Array Slot} {rest st : List Value} {D : va_G} {cl : List vw_C} {ws wc ws' : va_W} {A : Nat → Prop}
theorem retJ {v x : Int32} {B : (Nat → Int32) → va_W} {Pn : (Nat → Int32) → Prop} (hx : p.tables.exec = Jvm.exec) (hb : c.code = cc) (hr : meth.sig.returnType = some .int) (hlk : meth.locks = false) (hdg : decode cc pc = .ok (.ireturn, 1)) (hS : va_S A s.heap H locs) (u : Nat → Int32) (hP : va_P D cl (B u) H) (hu : Pn u) (hv : v = x) : W p l e R s m args below meth c H locs 0 0 (MQ below (qQj D cl B Pn A x) args s 0 0 A) (F0 m pc ls [.int v]) :=
  W.iret (v := v) hx hb hr (fun t ht _ => ⟨⟨v, u, rfl, ⟨hv, hu⟩, by show va_P D cl (B u) t.heap; rw [ht]; exact hP⟩, hS.F ht⟩) hS.2.2 hdg hlk
theorem goJ {a : Array Value} {x : Int32} {B B' : (Nat → Int32) → va_W} {Pn : (Nat → Int32) → Prop} (hfit : ∀ u, qFit ws wc (B u) (B' u)) (hP : va_P D cl ws H) (hD : va_D A ws) (hS : va_S A H0 H locs) (hA : ∀ q, H0.size ≤ q → A q) (hr : va_Run p l e R s m args below meth c H locs cells slots 0 0 (F0 m pc ls st) rest (qQj D cl B Pn (va_A wc H.size) x a) (va_A wc H.size)) (kk : ∀ (u : Nat → Int32) (H1 : Heap) (locs1 : List Loc), Pn u → va_P D cl (B' u) H1 → va_D A (B' u) → va_S A H0 H1 locs1 → W p l e R s m args below meth c H1 locs1 cells slots Q (F0 m (pc + 3) ls (.int x :: rest))) : W p l e R s m args below meth c H locs cells slots Q (F0 m pc ls st) := by
  have hF := (hfit (fun _ => 0)).free hD hS hA
  refine va_calli (mc := 0) (ms := 0) hr hS (fun q _ h => hF q h) hF (fun r u t H1 locs1 ht hvm hw hB hz1 hk1 hS1 => ?_)
  rw [ht] at hB
  rw [hw.1]
  exact kk u H1 locs1 hw.2 ((hfit u).P hP hk1 hB) ((hfit u).D hD) hS1
end QJ
abbrev wi (x a b : Int32) : Prop := ¬ x < a ∧ ¬ b < x
theorem wi_s {x : Int32} (m : Nat) (h : m + 1 < 2 ^ 31) : wi x (nI 0) (nI m) ↔ okI x (m + 1) := by
  have e0 : (nI 0).toInt = 0 := rfl
  have e1 : (nI m).toInt = m := nI_toInt (by omega)
  have e2 : (nI (m + 1)).toInt = ((m + 1 : Nat) : Int) := nI_toInt h
  have e3 : (0 : Int32).toInt = 0 := rfl
  unfold wi okI
  rw [Int32.lt_iff_toInt_lt, Int32.lt_iff_toInt_lt, Int32.lt_iff_toInt_lt, Int32.le_iff_toInt_le, e0, e1, e2, e3]
  omega
theorem wi_n {x : Int32} (n : Nat) (h : n < 2 ^ 31) : wi x (nI 0) (nI n - nI 1) ↔ okI x n := by
  cases n with
  | zero =>
    have e0 : (nI 0).toInt = 0 := rfl
    have e1 : (nI 0 - nI 1).toInt = -1 := by decide +kernel
    have e3 : (0 : Int32).toInt = 0 := rfl
    unfold wi okI
    rw [Int32.lt_iff_toInt_lt, Int32.lt_iff_toInt_lt, Int32.lt_iff_toInt_lt, Int32.le_iff_toInt_le, e0, e1, e3]
    omega
  | succ m =>
    rw [show nI (m + 1) - nI 1 = nI m from nI_pred m]
    exact wi_s m h
theorem mulc (a b : Nat) : nI a * nI b = nI (b * a) := by rw [pk_mul, Nat.mul_comm]
theorem cpy_0 {f : Nat → Int32} {sp dp : Nat} : va_cpy f f sp dp 0 = f := by
  funext j
  unfold va_cpy
  split
  · omega
  · rfl
theorem cpy_step {f : Nat → Int32} {i t : Nat} : upd (va_cpy f f ((i + 1) * 6) (i * 6) t) (i * 6 + t) (va_cpy f f ((i + 1) * 6) (i * 6) t (i * 6 + t + 6)) = va_cpy f f ((i + 1) * 6) (i * 6) (t + 1) := by
  funext j
  unfold upd va_cpy
  by_cases h : j = i * 6 + t
  · subst h
    rw [if_pos rfl, if_neg (by omega), if_pos (by omega)]
    congr 1
    omega
  · rw [if_neg h]
    by_cases h2 : i * 6 ≤ j ∧ j < i * 6 + t
    · rw [if_pos h2, if_pos (by omega)]
    · rw [if_neg h2, if_neg (by omega)]
def bitM (x : Int32) : Int32 := nI 0 + (x >>> (nI 0 &&& 31) &&& nI 1) + (x >>> (nI 1 &&& 31) &&& nI 1) + (x >>> (nI 2 &&& 31) &&& nI 1) + (x >>> (nI 3 &&& 31) &&& nI 1) + (x >>> (nI 4 &&& 31) &&& nI 1)
theorem bitM_bits : ∀ a, a < 32 → bitM (nI a) = nI (bits a) := by decide +kernel
theorem shr_bit : ∀ a, a < 32 → ∀ r, r < 5 → ((nI a >>> (nI r &&& 31)) &&& nI 1 = nI 1 ↔ ¬ nI a &&& (nI 1 <<< (nI r &&& 31)) = 0) := by decide +kernel
