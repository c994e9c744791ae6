/-! WORDS FOR THE STATE, and rows of our own over the kit's: contracts of three kinds (MetS: reads, MetV: writes, no answer, MetI: writes, an int), calls, places. -/
def up2 (F : Nat → Nat → Int32) (a k : Nat) (v : Int32) : Nat → Nat → Int32 := fun x y => if x = a ∧ y = k then v else F x y
theorem up2_same {F : Nat → Nat → Int32} {a k : Nat} {v : Int32} : up2 F a k v a k = v := if_pos ⟨rfl, rfl⟩
theorem up2_k {F : Nat → Nat → Int32} {a k x y : Nat} {v : Int32} (h : y ≠ k) : up2 F a k v x y = F x y := if_neg (fun q => h q.2)
theorem up2_a {F : Nat → Nat → Int32} {a k x y : Nat} {v : Int32} (h : x ≠ a) : up2 F a k v x y = F x y := if_neg (fun q => h q.1)
/-- a callee's world wc, w1 behind it, inside the caller's world ws, ws' behind it -/
def qFit (ws wc w1 ws' : va_W) : Prop := (∀ (j : Nat) (q : Nat × va_E), wc[j]? = some q → ∃ k : Nat, ws[k]? = some q) ∧ (∀ (k : Nat) (q : Nat × va_E), ws'[k]? = some q → (∃ j : Nat, w1[j]? = some q) ∨ (ws[k]? = some q ∧ ∀ (j : Nat) (q' : Nat × va_E), wc[j]? = some q' → q'.1 ≠ q.1)) ∧ ws'.map Prod.fst = ws.map Prod.fst
theorem qD_same {A : Nat → Prop} {ws ws' : va_W} (h : va_D A ws) (e : ws'.map Prod.fst = ws.map Prod.fst) : va_D A ws' := by
  have key : ∀ (i : Nat) (p : Nat × va_E), ws'[i]? = some p → ∃ p' : Nat × va_E, ws[i]? = some p' ∧ p'.1 = p.1 := by
    intro i p hp
    have h1 : (ws'.map Prod.fst)[i]? = some p.1 := by rw [List.getElem?_map, hp]; rfl
    rw [e, List.getElem?_map] at h1
    cases hw : ws[i]? with
    | none => rw [hw] at h1; cases h1
    | some p' => rw [hw] at h1; exact ⟨p', rfl, Option.some.inj h1⟩
  refine ⟨fun i j p q hi hj hpq => ?_, fun k q hk => ?_⟩
  · obtain ⟨p', hp', e1⟩ := key i p hi
    obtain ⟨q', hq', e2⟩ := key j q hj
    exact h.1 i j p' q' hp' hq' (by rw [e1, e2, hpq])
  · obtain ⟨q', hq', e1⟩ := key k q hk
    have := h.2 k q' hq'
    rw [e1] at this
    exact this
theorem qFit_all {ws w1 : va_W} (e : w1.map Prod.fst = ws.map Prod.fst) : qFit ws ws w1 w1 := ⟨fun j _ h => ⟨j, h⟩, fun k _ h => Or.inl ⟨k, h⟩, e⟩
theorem qset_fst {ws : va_W} {k a : Nat} {e e' : va_E} (hk : ws[k]? = some (a, e)) : (ws.set k (a, e')).map Prod.fst = ws.map Prod.fst := by
  refine List.ext_getElem? (fun i => ?_)
  rw [List.getElem?_map, List.getElem?_map]
  by_cases h : k = i
  · subst h
    have hlt : k < ws.length := (List.getElem?_eq_some_iff.mp hk).1
    rw [List.getElem?_set_self hlt, hk]
    rfl
  · rw [List.getElem?_set_ne h]
theorem qFit1 {A : Nat → Prop} {ws ws' : va_W} {k a : Nat} {e e' : va_E} (hD : va_D A ws) (hk : ws[k]? = some (a, e)) (he : ws.set k (a, e') = ws') : qFit ws [(a, e)] [(a, e')] ws' := by
  subst he
  refine ⟨fun j q h => ?_, fun i q h => ?_, qset_fst hk⟩
  · match j, h with
    | 0, h => cases h; exact ⟨k, hk⟩
  · by_cases hik : k = i
    · subst hik
      have hlt : k < ws.length := (List.getElem?_eq_some_iff.mp hk).1
      rw [List.getElem?_set_self hlt] at h
      exact Or.inl ⟨0, h⟩
    · rw [List.getElem?_set_ne hik] at h
      refine Or.inr ⟨h, fun j q' hj hq => ?_⟩
      match j, hj with
      | 0, hj => cases hj; exact hik (hD.1 k i _ _ hk h hq)
theorem qFit2 {A : Nat → Prop} {ws ws' : va_W} {k1 k2 a1 a2 : Nat} {e1 e1' e2 e2' : va_E} (hD : va_D A ws) (hk1 : ws[k1]? = some (a1, e1)) (hk2 : ws[k2]? = some (a2, e2)) (hne : k1 ≠ k2) (he : (ws.set k1 (a1, e1')).set k2 (a2, e2') = ws') : qFit ws [(a1, e1), (a2, e2)] [(a1, e1'), (a2, e2')] ws' := by
  subst he
  have h2 : (ws.set k1 (a1, e1'))[k2]? = some (a2, e2) := by rw [List.getElem?_set_ne hne]; exact hk2
  refine ⟨fun j q h => ?_, fun i q h => ?_, (qset_fst h2).trans (qset_fst hk1)⟩
  · match j, h with
    | 0, h => cases h; exact ⟨k1, hk1⟩
    | 1, h => cases h; exact ⟨k2, hk2⟩
  · by_cases hik : k2 = i
    · subst hik
      have hlt : k2 < (ws.set k1 (a1, e1')).length := (List.getElem?_eq_some_iff.mp h2).1
      rw [List.getElem?_set_self hlt] at h
      exact Or.inl ⟨1, h⟩
    · rw [List.getElem?_set_ne hik] at h
      by_cases hik1 : k1 = i
      · subst hik1
        have hlt : k1 < ws.length := (List.getElem?_eq_some_iff.mp hk1).1
        rw [List.getElem?_set_self hlt] at h
        exact Or.inl ⟨0, h⟩
      · rw [List.getElem?_set_ne hik1] at h
        refine Or.inr ⟨h, fun j q' hj hq => ?_⟩
        match j, hj with
        | 0, hj => cases hj; exact hik1 (hD.1 k1 i _ _ hk1 h hq)
        | 1, hj => cases hj; exact hik (hD.1 k2 i _ _ hk2 h hq)
theorem qFit.P {D : va_G} {cl : List vw_C} {ws wc w1 ws' : va_W} {H H1 : Heap} (h : qFit ws wc w1 ws') (hP : va_P D cl ws H) (hk : ∀ q : Nat, q < H.size → ¬ va_A wc H.size q → H1[q]? = H[q]?) (hP1 : va_P D cl w1 H1) : va_P D cl ws' H1 := by
  intro k q hq
  rcases h.2.1 k q hq with ⟨j, hj⟩ | ⟨h1, h2⟩
  · exact hP1 j q hj
  · have hlt := (hP k q h1).lt
    refine (hP k q h1).kept (hk q.1 hlt ?_)
    rintro (⟨j, e2, hj⟩ | h3)
    · exact h2 j _ hj rfl
    · omega
theorem qFit.sub {D : va_G} {cl : List vw_C} {ws wc w1 ws' : va_W} {H : Heap} (h : qFit ws wc w1 ws') (hP : va_P D cl ws H) : va_P D cl wc H := by
  intro j q hj
  obtain ⟨k, hk⟩ := h.1 j q hj
  exact hP k q hk
theorem qFit.free {A0 : Nat → Prop} {ws wc w1 ws' : va_W} {H0 H : Heap} {locs : List Loc} (h : qFit ws wc w1 ws') (hD : va_D A0 ws) (hS : va_S A0 H0 H locs) (hA : ∀ q, H0.size ≤ q → A0 q) : ∀ q, va_A wc H.size q → A0 q := by
  rintro q (⟨j, e2, hj⟩ | h3)
  · obtain ⟨k, hk⟩ := h.1 j _ hj
    exact hD.2 k _ hk
  · exact hA q (Nat.le_trans hS.1 h3)
theorem qFit.D {A0 : Nat → Prop} {ws wc w1 ws' : va_W} (h : qFit ws wc w1 ws') (hD : va_D A0 ws) : va_D A0 ws' := qD_same hD h.2.2
/-- the starts of contracts: a read's, a write's -/
def qS (D : va_G) (cl : List vw_C) (w : va_W) (tys : List (ClassId × FieldType)) (av : List Value) : Array Value → State → Prop := va_Pc av (fun U => va_P D cl w U.heap ∧ va_K D cl tys U)
def qW (D : va_G) (cl : List vw_C) (w : va_W) (tys : List (ClassId × FieldType)) (sz : Nat) (av : List Value) : Array Value → State → Prop := va_Pc av (fun U => U.heap.size = sz ∧ va_P D cl w U.heap ∧ va_K D cl tys U ∧ va_D (fun _ => True) w)
def qQv (D : va_G) (cl : List vw_C) (w' : va_W) (A : Nat → Prop) : Array Value → State → Outcome → State → Prop := va_Qv (fun _ : Unit => True) (fun _ t => va_P D cl w' t.heap) A
def qQi (D : va_G) (cl : List vw_C) (w' : va_W) (A : Nat → Prop) (x : Int32) : Array Value → State → Outcome → State → Prop := va_Qi (fun (r : Int32) (_ : Unit) => r = x) (fun _ t => va_P D cl w' t.heap) A
def MetS (l : Launch) (y : MethodName) (ws : List Cond) (rm : Room) (D : va_G) (cl : List vw_C) (w : va_W) (tys : List (ClassId × FieldType)) (av : List Value) (x : Int32) : Prop := Met l y ws rm (qS D cl w tys av) (vp_Si (fun r => r = x)) 0 0 (fun _ => False)
def MetV (l : Launch) (y : MethodName) (ws : List Cond) (rm : Room) (D : va_G) (cl : List vw_C) (w : va_W) (tys : List (ClassId × FieldType)) (av : List Value) (w' : va_W) : Prop := ∀ sz : Nat, Met l y ws rm (qW D cl w tys sz av) (qQv D cl w' (va_A w sz)) 0 0 (va_A w sz)
def MetI (l : Launch) (y : MethodName) (ws : List Cond) (rm : Room) (D : va_G) (cl : List vw_C) (w : va_W) (tys : List (ClassId × FieldType)) (av : List Value) (x : Int32) (w' : va_W) : Prop := ∀ sz : Nat, Met l y ws rm (qW D cl w tys sz av) (qQi D cl w' (va_A w sz) x) 0 0 (va_A w sz)
theorem qS_blind {D : va_G} {cl : List vw_C} {w : va_W} {tys : List (ClassId × FieldType)} {av : List Value} : FrameBlind (qS D cl w tys av) := fun a U g mk q => ⟨q.1, q.2.1, va_K.moved (u := U) (U := U.calling g mk a) (Vm.Alike.refl U.vm) q.2.2⟩
theorem qW_blind {D : va_G} {cl : List vw_C} {w : va_W} {tys : List (ClassId × FieldType)} {sz : Nat} {av : List Value} : FrameBlind (qW D cl w tys sz av) := fun a U g mk q => ⟨q.1, q.2.1, q.2.2.1, va_K.moved (u := U) (U := U.calling g mk a) (Vm.Alike.refl U.vm) q.2.2.2.1, q.2.2.2.2⟩
/-- a contract out of a walk -/
theorem MetS.of {l : Launch} {y : MethodName} {ws ws' : List Cond} {rm : Room} {D : va_G} {cl : List vw_C} {w : va_W} {tys : List (ClassId × FieldType)} {av : List Value} {x : Int32} {cc : ByteArray} {maxL : Nat} {ret : Option FieldType} {lv : List (Nat × Value)}
    (hy : plainName y.cls = true) (hw : ws = Cond.code y cc maxL ret :: ws') (hlen : (lg_sl av).length ≤ maxL) (hlv : lv_args 0 av = lv)
    (body : ∀ (p : Program) (e : Env) (s : State) (m : MethodId) (below : List Frame) (meth : Method) (c : Code) (ls : Array Slot), p.tables.exec = Jvm.exec → c.code = cc → meth.sig.returnType = ret → meth.locks = false → c.maxLocals = maxL → s.vm.findClass y.cls = some m.cls → (∀ w ∈ ws, w.before av.toArray s = true) → va_K D cl tys s → va_P D cl w s.heap → lv_has ls maxL lv →
      W p l e rm s m av.toArray below meth c s.heap [] 0 0 (MQ below (vp_Si (fun r => r = x)) av.toArray s 0 0 (fun _ => False)) (F0 m 0 ls [])) : MetS l y ws rm D cl w tys av x := by
  refine Met.ofW (cc := cc) (maxL := maxL) (ret := ret) hy hw ?_
  intro p e s m args below meth c s₁ B hml hv
  obtain ⟨rfl, hP, hK⟩ := hv
  have hl := lv_entry av (n := maxL) hlen
  rw [hlv] at hl
  rw [lg_entry_eq]
  exact body p e s m below meth c _ B.exec B.bytes B.returns B.notSynchronized hml (findClass_of_methodNamed B.named) (atoms_spec (ws := ws) B.pre) hK hP hl
theorem MetV.of {l : Launch} {y : MethodName} {ws ws' : List Cond} {rm : Room} {D : va_G} {cl : List vw_C} {w w' : va_W} {tys : List (ClassId × FieldType)} {av : List Value} {cc : ByteArray} {maxL : Nat} {ret : Option FieldType} {lv : List (Nat × Value)}
    (hy : plainName y.cls = true) (hw : ws = Cond.code y cc maxL ret :: ws') (hlen : (lg_sl av).length ≤ maxL) (hlv : lv_args 0 av = lv)
    (body : ∀ (p : Program) (e : Env) (s : State) (m : MethodId) (below : List Frame) (meth : Method) (c : Code) (ls : Array Slot) (A : Nat → Prop), p.tables.exec = Jvm.exec → c.code = cc → meth.sig.returnType = ret → meth.locks = false → c.maxLocals = maxL → s.vm.findClass y.cls = some m.cls → (∀ w ∈ ws, w.before av.toArray s = true) → va_K D cl tys s → va_P D cl w s.heap → va_D A w → va_S A s.heap s.heap [] → (∀ q, s.heap.size ≤ q → A q) → lv_has ls maxL lv →
      W p l e rm s m av.toArray below meth c s.heap [] 0 0 (MQ below (qQv D cl w' A) av.toArray s 0 0 A) (F0 m 0 ls [])) : MetV l y ws rm D cl w tys av w' := by
  intro sz
  refine Met.ofW (cc := cc) (maxL := maxL) (ret := ret) hy hw ?_
  intro p e s m args below meth c s₁ B hml hv
  obtain ⟨rfl, hsz, hP, hK, hD0⟩ := hv
  subst hsz
  have hl := lv_entry av (n := maxL) hlen
  rw [hlv] at hl
  rw [lg_entry_eq]
  exact body p e s m below meth c _ _ B.exec B.bytes B.returns B.notSynchronized hml (findClass_of_methodNamed B.named) (atoms_spec (ws := ws) B.pre) hK hP (hD0.self (sz := s.heap.size)) va_S.rf (fun q h => Or.inr h) hl
theorem MetI.of {l : Launch} {y : MethodName} {ws ws' : List Cond} {rm : Room} {D : va_G} {cl : List vw_C} {w w' : va_W} {tys : List (ClassId × FieldType)} {av : List Value} {x : Int32} {cc : ByteArray} {maxL : Nat} {ret : Option FieldType} {lv : List (Nat × Value)}
    (hy : plainName y.cls = true) (hw : ws = Cond.code y cc maxL ret :: ws') (hlen : (lg_sl av).length ≤ maxL) (hlv : lv_args 0 av = lv)
    (body : ∀ (p : Program) (e : Env) (s : State) (m : MethodId) (below : List Frame) (meth : Method) (c : Code) (ls : Array Slot) (A : Nat → Prop), p.tables.exec = Jvm.exec → c.code = cc → meth.sig.returnType = ret → meth.locks = false → c.maxLocals = maxL → s.vm.findClass y.cls = some m.cls → (∀ w ∈ ws, w.before av.toArray s = true) → va_K D cl tys s → va_P D cl w s.heap → va_D A w → va_S A s.heap s.heap [] → (∀ q, s.heap.size ≤ q → A q) → lv_has ls maxL lv →
      W p l e rm s m av.toArray below meth c s.heap [] 0 0 (MQ below (qQi D cl w' A x) av.toArray s 0 0 A) (F0 m 0 ls [])) : MetI l y ws rm D cl w tys av x w' := by
  intro sz
  refine Met.ofW (cc := cc) (maxL := maxL) (ret := ret) hy hw ?_
  intro p e s m args below meth c s₁ B hml hv
  obtain ⟨rfl, hsz, hP, hK, hD0⟩ := hv
  subst hsz
  have hl := lv_entry av (n := maxL) hlen
  rw [hlv] at hl
  rw [lg_entry_eq]
  exact body p e s m below meth c _ _ B.exec B.bytes B.returns B.notSynchronized hml (findClass_of_methodNamed B.named) (atoms_spec (ws := ws) B.pre) hK hP (hD0.self (sz := s.heap.size)) va_S.rf (fun q h => Or.inr h) hl
section QR
variable {p : Program} {l : Launch} {e : Env} {R : Room} {s : State} {m : MethodId} {args : Array Value} {below : List Frame} {meth : Method} {c : Code} {H H0 : Heap} {locs : List Loc} {cells slots : Nat} {Q : State → Prop} {cc : ByteArray} {pc : Nat} {ls : Array Slot} {rest st : List Value} {D : va_G} {cl : List vw_C} {ws wc w1 ws' : va_W} {tys tysc : List (ClassId × FieldType)} {A : Nat → Prop}
/-- ends -/
theorem retS {v x : Int32} (hx : p.tables.exec = Jvm.exec) (hb : c.code = cc) (hr : meth.sig.returnType = some .int) (hlk : meth.locks = false) (hdg : decode cc pc = .ok (.ireturn, 1)) (hv : v = x) : W p l e R s m args below meth c s.heap [] 0 0 (MQ below (vp_Si (fun r => r = x)) args s 0 0 (fun _ => False)) (F0 m pc ls [.int v]) :=
  W.iret (v := v) hx hb hr (fun t ht _ => ⟨v, rfl, hv, ht⟩) (fun q h => by cases h) hdg hlk
theorem retSz {v x : Int32} (hx : p.tables.exec = Jvm.exec) (hb : c.code = cc) (hr : meth.sig.returnType = some .boolean) (hlk : meth.locks = false) (hdg : decode cc pc = .ok (.ireturn, 1)) (hn : narrow .boolean (.int v) = .int v) (hv : v = x) : W p l e R s m args below meth c s.heap [] 0 0 (MQ below (vp_Si (fun r => r = x)) args s 0 0 (fun _ => False)) (F0 m pc ls [.int v]) :=
  W.zret (v := v) hx hb hr hn (fun t ht _ => ⟨v, rfl, hv, ht⟩) (fun q h => by cases h) hdg hlk
theorem retV (hx : p.tables.exec = Jvm.exec) (hb : c.code = cc) (hr : meth.sig.returnType = none) (hlk : meth.locks = false) (hdg : decode cc pc = .ok (.return_, 1)) (hS : va_S A s.heap H locs) (hP : va_P D cl ws' H) : W p l e R s m args below meth c H locs 0 0 (MQ below (qQv D cl ws' A) args s 0 0 A) (F0 m pc ls []) :=
  W.vret hx hb hr (fun t ht _ => ⟨⟨(), rfl, trivial, by show va_P D cl ws' t.heap; rw [ht]; exact hP⟩, hS.F ht⟩) hS.2.2 hdg hlk
theorem retI {v x : Int32} (hx : p.tables.exec = Jvm.exec) (hb : c.code = cc) (hr : meth.sig.returnType = some .int) (hlk : meth.locks = false) (hdg : decode cc pc = .ok (.ireturn, 1)) (hS : va_S A s.heap H locs) (hP : va_P D cl ws' H) (hv : v = x) : W p l e R s m args below meth c H locs 0 0 (MQ below (qQi D cl ws' A x) args s 0 0 A) (F0 m pc ls [.int v]) :=
  W.iret (v := v) hx hb hr (fun t ht _ => ⟨⟨v, (), rfl, hv, by show va_P D cl ws' t.heap; rw [ht]; exact hP⟩, hS.F ht⟩) hS.2.2 hdg hlk
theorem retIz {v x : Int32} (hx : p.tables.exec = Jvm.exec) (hb : c.code = cc) (hr : meth.sig.returnType = some .boolean) (hlk : meth.locks = false) (hdg : decode cc pc = .ok (.ireturn, 1)) (hn : narrow .boolean (.int v) = .int v) (hS : va_S A s.heap H locs) (hP : va_P D cl ws' H) (hv : v = x) : W p l e R s m args below meth c H locs 0 0 (MQ below (qQi D cl ws' A x) args s 0 0 A) (F0 m pc ls [.int v]) :=
  W.zret (v := v) hx hb hr hn (fun t ht _ => ⟨⟨v, (), rfl, hv, by show va_P D cl ws' t.heap; rw [ht]; exact hP⟩, hS.F ht⟩) hS.2.2 hdg hlk
/-- behind a run: a read's contract leaves the heap -/
theorem goS {x : Int32} {a : Array Value} (hr : va_Run p l e R s m args below meth c H locs cells slots 0 0 (F0 m pc ls st) rest (vp_Si (fun r => r = x) a) (fun _ => False)) (kk : W p l e R s m args below meth c H locs cells slots Q (F0 m (pc + 3) ls (.int x :: rest))) : W p l e R s m args below meth c H locs cells slots Q (F0 m pc ls st) :=
  vp_callSi (va_Run.run hr) (fun r e => by rw [e]; exact kk)
theorem goV {a : Array Value} (hfit : qFit ws wc w1 ws') (hP : va_P D cl ws H) (hD : va_D A ws) (hS : va_S A H0 H locs) (hA : ∀ q, H0.size ≤ q → A q) (hr : va_Run p l e R s m args below meth c H locs cells slots 0 0 (F0 m pc ls st) rest (qQv D cl w1 (va_A wc H.size) a) (va_A wc H.size)) (kk : ∀ (H1 : Heap) (locs1 : List Loc), va_P D cl ws' H1 → va_D A ws' → va_S A H0 H1 locs1 → W p l e R s m args below meth c H1 locs1 cells slots Q (F0 m (pc + 3) ls rest)) : W p l e R s m args below meth c H locs cells slots Q (F0 m pc ls st) := by
  have hF := hfit.free hD hS hA
  refine va_callv (mc := 0) (ms := 0) hr hS (fun q _ h => hF q h) hF (fun u t H1 locs1 ht hvm hw hB hz1 hk1 hS1 => ?_)
  rw [ht] at hB
  exact kk H1 locs1 (hfit.P hP hk1 hB) (hfit.D hD) hS1
theorem goI {a : Array Value} {x : Int32} (hfit : qFit ws wc w1 ws') (hP : va_P D cl ws H) (hD : va_D A ws) (hS : va_S A H0 H locs) (hA : ∀ q, H0.size ≤ q → A q) (hr : va_Run p l e R s m args below meth c H locs cells slots 0 0 (F0 m pc ls st) rest (qQi D cl w1 (va_A wc H.size) x a) (va_A wc H.size)) (kk : ∀ (H1 : Heap) (locs1 : List Loc), va_P D cl ws' H1 → va_D A ws' → va_S A H0 H1 locs1 → W p l e R s m args below meth c H1 locs1 cells slots Q (F0 m (pc + 3) ls (.int x :: rest))) : W p l e R s m args below meth c H locs cells slots Q (F0 m pc ls st) := by
  have hF := hfit.free hD hS hA
  refine va_calli (mc := 0) (ms := 0) hr hS (fun q _ h => hF q h) hF (fun r u t H1 locs1 ht hvm hw hB hz1 hk1 hS1 => ?_)
  rw [ht] at hB
  rw [hw]
  exact kk H1 locs1 (hfit.P hP hk1 hB) (hfit.D hD) hS1
/-- what a call wants of its start -/
theorem preSV {C : String} {b : Addr} {As : List Value} (hK : va_K D cl tys s) (hP : va_P D cl w1 H) (hc : ∃ cellB : Cell, H[b]? = some cellB ∧ cellB.vm.isStatics = false ∧ s.vm.findClass C = some cellB.cls) : PreV s H C b (qS D cl w1 tys (.ref b :: As)) As :=
  ⟨qS_blind, hc, fun U hU hW => ⟨rfl, by rw [hU]; exact hP, va_K.moved hW.alike hK⟩⟩
theorem preSS {As : List Value} (hK : va_K D cl tys s) (hP : va_P D cl w1 H) : PreS s H (qS D cl w1 tys As) As :=
  ⟨qS_blind, fun U hU hW => ⟨rfl, by rw [hU]; exact hP, va_K.moved hW.alike hK⟩⟩
theorem preWV {C : String} {b : Addr} {As : List Value} (hK : va_K D cl tys s) (hP : va_P D cl w1 H) (hD : va_D A w1) (hc : ∃ cellB : Cell, H[b]? = some cellB ∧ cellB.vm.isStatics = false ∧ s.vm.findClass C = some cellB.cls) : PreV s H C b (qW D cl w1 tys H.size (.ref b :: As)) As :=
  ⟨qW_blind, hc, fun U hU hW => ⟨rfl, by rw [hU], by rw [hU]; exact hP, va_K.moved hW.alike hK, hD.weaken (fun _ _ _ _ => trivial)⟩⟩
/-- arrays at an index that is a number -/
theorem q_iald (hx : p.tables.exec = Jvm.exec) (hb : c.code = cc) (hK : va_K D cl tys s) (hP : va_P D cl ws H) (q0 t0 : Nat) {a : Nat} {cA : ClassId} {n j : Nat} {f : Nat → Int32} (ha : ws[q0]? = some (a, .inl (cA, n, .inl f))) (ht : tys[t0]? = some (cA, .int)) (hj : j < n) (hn : n < 2 ^ 31) (hdg : decode cc pc = .ok (.iaload, 1)) (kk : W p l e R s m args below meth c H locs cells slots Q (F0 m (pc + 1) ls (.int (f j) :: rest))) : W p l e R s m args below meth c H locs cells slots Q (F0 m pc ls (.int (nI j) :: .ref a :: rest)) := by
  refine va_iald hx hb hK hP q0 t0 ha ht (vp_in_nI hj hn) hdg ?_
  rw [nI_clamp (by omega)]
  exact kk
theorem q_zald (hx : p.tables.exec = Jvm.exec) (hb : c.code = cc) (hK : va_K D cl tys s) (hP : va_P D cl ws H) (q0 t0 : Nat) {a : Nat} {cA : ClassId} {n j : Nat} {f : Nat → Int32} (ha : ws[q0]? = some (a, .inl (cA, n, .inl f))) (ht : tys[t0]? = some (cA, .boolean)) (hj : j < n) (hn : n < 2 ^ 31) (hdg : decode cc pc = .ok (.baload, 1)) (kk : W p l e R s m args below meth c H locs cells slots Q (F0 m (pc + 1) ls (.int (f j) :: rest))) : W p l e R s m args below meth c H locs cells slots Q (F0 m pc ls (.int (nI j) :: .ref a :: rest)) := by
  refine va_zald hx hb hK hP q0 t0 ha ht (vp_in_nI hj hn) hdg ?_
  rw [nI_clamp (by omega)]
  exact kk
theorem q_aald (hx : p.tables.exec = Jvm.exec) (hb : c.code = cc) (hK : va_K D cl tys s) (hP : va_P D cl ws H) (q0 t0 : Nat) {a : Nat} {cA : ClassId} {C : String} {n j : Nat} {f : Nat → Nat} (ha : ws[q0]? = some (a, .inl (cA, n, .inr (.inr (.inr (.inr (fun k => some (f k)))))))) (ht : tys[t0]? = some (cA, .object C)) (hj : j < n) (hn : n < 2 ^ 31) (hdg : decode cc pc = .ok (.aaload, 1)) (kk : W p l e R s m args below meth c H locs cells slots Q (F0 m (pc + 1) ls (.ref (f j) :: rest))) : W p l e R s m args below meth c H locs cells slots Q (F0 m pc ls (.int (nI j) :: .ref a :: rest)) := by
  refine va_aldq hx hb hK hP q0 t0 ha ht (vp_in_nI hj hn) hdg ?_
  rw [nI_clamp (by omega)]
  exact kk
theorem q_iast (hx : p.tables.exec = Jvm.exec) (hb : c.code = cc) (hK : va_K D cl tys s) (hP : va_P D cl ws H) (hD : va_D A ws) (hS : va_S A H0 H locs) (q0 t0 : Nat) {a : Nat} {cA : ClassId} {n j : Nat} {f : Nat → Int32} {x : Int32} (ha : ws[q0]? = some (a, .inl (cA, n, .inl f))) (ht : tys[t0]? = some (cA, .int)) (hj : j < n) (hn : n < 2 ^ 31) (he : ws.set q0 (a, .inl (cA, n, .inl (upd f j x))) = ws') (hdg : decode cc pc = .ok (.iastore, 1)) (kk : ∀ (H1 : Heap) (locs1 : List Loc), va_P D cl ws' H1 → va_D A ws' → va_S A H0 H1 locs1 → W p l e R s m args below meth c H1 locs1 cells slots Q (F0 m (pc + 1) ls rest)) : W p l e R s m args below meth c H locs cells slots Q (F0 m pc ls (.int x :: .int (nI j) :: .ref a :: rest)) := by
  subst he
  refine va_iast hx hb hK hP hD hS q0 t0 ha ht (vp_in_nI hj hn) hdg (fun H1 locs1 hP1 hD1 hS1 => ?_)
  rw [nI_clamp (by omega)] at hP1 hD1
  exact kk H1 locs1 hP1 hD1 hS1
end QR
