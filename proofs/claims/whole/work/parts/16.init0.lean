/-! CONSTRUCTORS: contracts that make cells; N: what they need of the tables beside their words -/
def qN (D : va_G) (cl : List vw_C) (w : va_W) (sz : Nat) (N : State → Prop) (av : List Value) : Array Value → State → Prop := va_Pc av (fun U => U.heap.size = sz ∧ va_P D cl w U.heap ∧ va_K D cl [] U ∧ va_D (fun _ => True) w ∧ N U)
def qQn {S : Type} (D : va_G) (cl : List vw_C) (B : S → va_W) (T : S → List (ClassId × FieldType)) (A : Nat → Prop) : Array Value → State → Outcome → State → Prop := va_Qv (fun _ : S => True) (fun u t => va_P D cl (B u) t.heap ∧ va_K D cl (T u) t ∧ va_D A (B u)) A
def MetN {S : Type} (l : Launch) (y : MethodName) (ws : List Cond) (rm : Room) (D : va_G) (cl : List vw_C) (w : va_W) (N : State → Prop) (av : List Value) (B : S → va_W) (T : S → List (ClassId × FieldType)) (mc ms : Nat) : Prop := ∀ sz : Nat, Met l y ws rm (qN D cl w sz N av) (qQn D cl B T (va_A w sz)) mc ms (va_A w sz)
theorem MetN.at {S : Type} {l : Launch} {y : MethodName} {ws : List Cond} {rm : Room} {D : va_G} {cl : List vw_C} {w : va_W} {N : State → Prop} {av : List Value} {B : S → va_W} {T : S → List (ClassId × FieldType)} {mc ms : Nat} (h : MetN l y ws rm D cl w N av B T mc ms) (sz : Nat) : Met l y ws rm (qN D cl w sz N av) (qQn D cl B T (va_A w sz)) mc ms (va_A w sz) := h sz
theorem MetN.of {S : Type} {l : Launch} {y : MethodName} {ws ws' : List Cond} {rm : Room} {D : va_G} {cl : List vw_C} {w : va_W} {N : State → Prop} {av : List Value} {B : S → va_W} {T : S → List (ClassId × FieldType)} {mc ms : Nat} {cc : ByteArray} {maxL : Nat} {ret : Option FieldType} {lv : List (Nat × Value)}
    (hy : plainName y.cls = true) (hw : ws = Cond.code y cc maxL ret :: ws') (hlen : (lg_sl av).length ≤ maxL) (hlv : lv_args 0 av = lv)
    (body : ∀ (p : Program) (e : Env) (s : State) (m : MethodId) (below : List Frame) (meth : Method) (c : Code) (ls : Array Slot) (A : Nat → Prop), p.tables.exec = Jvm.exec → c.code = cc → meth.sig.returnType = ret → meth.locks = false → c.maxLocals = maxL → s.vm.findClass y.cls = some m.cls → (∀ w ∈ ws, w.before av.toArray s = true) → va_K D cl [] s → va_P D cl w s.heap → va_D A w → va_S A s.heap s.heap [] → (∀ q, s.heap.size ≤ q → A q) → lv_has ls maxL lv → meth.name = y.name → N s →
      W p l e rm s m av.toArray below meth c s.heap [] 0 0 (MQ below (qQn D cl B T A) av.toArray s mc ms A) (F0 m 0 ls [])) : MetN l y ws rm D cl w N av B T mc ms := by
  intro sz
  refine Met.ofW (cc := cc) (maxL := maxL) (ret := ret) hy hw ?_
  intro p e s m args below meth c s₁ B' hml hv
  obtain ⟨rfl, hsz, hP, hK, hD0, hN⟩ := hv
  subst hsz
  have hl := lv_entry av (n := maxL) hlen
  rw [hlv] at hl
  rw [lg_entry_eq]
  exact body p e s m below meth c _ _ B'.exec B'.bytes B'.returns B'.notSynchronized hml (findClass_of_methodNamed B'.named) (atoms_spec (ws := ws) B'.pre) hK hP (hD0.self (sz := s.heap.size)) va_S.rf (fun q h => Or.inr h) hl (name_of_methodNamed B'.named B'.method).1 hN
theorem arrV_congr {cA : ClassId} {n : Nat} {f f' : Nat → Value} (h : ∀ j, j < n → f j = f' j) : arrV cA n f = arrV cA n f' := by
  unfold arrV
  congr 1
  exact congrArg Array.ofFn (funext fun j => h j.val j.isLt)
theorem va_P_arr {D : va_G} {cl : List vw_C} {ws : va_W} {H : Heap} {k a : Nat} {cA : ClassId} {n : Nat} {f f' : Nat → Option Nat} (h : va_P D cl ws H) (hk : ws[k]? = some (a, .inl (cA, n, .inr (.inr (.inr (.inr f)))))) (he : ∀ j, j < n → f j = f' j) : va_P D cl (ws.set k (a, .inl (cA, n, .inr (.inr (.inr (.inr f')))))) H := by
  intro i q hi
  by_cases z : k = i
  · subst z
    have hlt : k < ws.length := (List.getElem?_eq_some_iff.mp hk).1
    rw [List.getElem?_set_self hlt] at hi
    cases hi
    have h1 := h k _ hk
    show H[a]? = some (vp_cell cA (n, .inr (.inr (.inr (.inr f')))))
    have h2 : H[a]? = some (vp_cell cA (n, .inr (.inr (.inr (.inr f))))) := h1
    rw [h2, vp_cell_q, vp_cell_q, arrV_congr (fun j hj => by rw [he j hj])]
  · rw [List.getElem?_set_ne z] at hi
    exact h i q hi
section QN
variable {p : Program} {l : Launch} {e : Env} {R : Room} {s : State} {m : MethodId} {args : Array Value} {below : List Frame} {meth : Method} {c : Code} {H H0 : Heap} {locs : List Loc} {cells slots mc ms : Nat} {Q : State → Prop} {cc : ByteArray} {pc : Nat} {ls : Array Slot} {rest st : List Value} {D : va_G} {cl : List vw_C} {ws ws' wc : va_W} {tys : List (ClassId × FieldType)} {A : Nat → Prop}
theorem preWS {av : List Value} (hK : va_K D cl tys s) (hP : va_P D cl ws H) (hD : va_D A ws) : PreS s H (qW D cl ws tys H.size av) av :=
  ⟨qW_blind, fun U hU hW => ⟨rfl, by rw [hU], by rw [hU]; exact hP, va_K.moved hW.alike hK, hD.weaken (fun _ _ _ _ => trivial)⟩⟩
theorem preNS {av : List Value} {N : State → Prop} (hN1 : ∀ (U : State) (g : JFrame) (mk : MethodId) (a : Array Value), N U → N (U.calling g mk a)) (hN2 : ∀ U : State, s.WarmedH U.vm → N U) (hK : va_K D cl [] s) (hP : va_P D cl ws H) (hD : va_D A ws) : PreS s H (qN D cl ws H.size N av) av :=
  ⟨fun a U g mk q => ⟨q.1, q.2.1, q.2.2.1, va_K.moved (u := U) (U := U.calling g mk a) (Vm.Alike.refl U.vm) q.2.2.2.1, q.2.2.2.2.1, hN1 U g mk a q.2.2.2.2.2⟩, fun U hU hW => ⟨rfl, by rw [hU], by rw [hU]; exact hP, va_K.moved hW.alike hK, hD.weaken (fun _ _ _ _ => trivial), hN2 U hW⟩⟩
theorem retN {S : Type} {B : S → va_W} {T : S → List (ClassId × FieldType)} (u : S) (hx : p.tables.exec = Jvm.exec) (hb : c.code = cc) (hr : meth.sig.returnType = none) (hlk : meth.locks = false) (hdg : decode cc pc = .ok (.return_, 1)) (hS : va_S A s.heap H locs) (hP : va_P D cl (B u) H) (hK : va_K D cl (T u) s) (hD : va_D A (B u)) : W p l e R s m args below meth c H locs mc ms (MQ below (qQn D cl B T A) args s mc ms A) (F0 m pc ls []) :=
  W.vret hx hb hr (fun t ht hW => ⟨⟨u, rfl, trivial, by show va_P D cl (B u) t.heap; rw [ht]; exact hP, va_K.moved hW.alike hK, hD⟩, hS.F ht⟩) hS.2.2 hdg hlk
/-- a call that makes cells out of one cell at the world's end: what it leaves stands behind the rest -/
theorem goN {S : Type} {B : S → va_W} {T : S → List (ClassId × FieldType)} {a : Array Value} {q : Nat} {ev : va_E} (hP : va_P D cl (ws ++ [(q, ev)]) H) (hD : va_D A (ws ++ [(q, ev)])) (hK : va_K D cl tys s) (hS : va_S A H0 H locs) (hA : ∀ q, H0.size ≤ q → A q) (hr : va_Run p l e R s m args below meth c H locs cells slots mc ms (F0 m pc ls st) rest (qQn D cl B T (va_A [(q, ev)] H.size) a) (va_A [(q, ev)] H.size)) (kk : ∀ (u : S) (H1 : Heap) (locs1 : List Loc), va_P D cl (ws ++ B u) H1 → va_D A (ws ++ B u) → va_K D cl (tys ++ T u) s → va_S A H0 H1 locs1 → W p l e R s m args below meth c H1 locs1 (cells + mc) (slots + ms) Q (F0 m (pc + 3) ls rest)) : W p l e R s m args below meth c H locs cells slots Q (F0 m pc ls st) := by
  have hlast : (ws ++ [(q, ev)])[ws.length]? = some (q, ev) := by rw [List.getElem?_append_right (Nat.le_refl _), Nat.sub_self]; rfl
  have hF : ∀ x, va_A [(q, ev)] H.size x → A x := by
    rintro x (⟨j, e2, hj⟩ | h3)
    · match j, hj with
      | 0, hj => cases hj; exact hD.2 _ _ hlast
    · exact hA x (Nat.le_trans hS.1 h3)
  refine va_callv (mc := mc) (ms := ms) hr hS (fun q _ h => hF q h) hF (fun u t H1 locs1 ht hvm hw hB hz1 hk1 hS1 => ?_)
  obtain ⟨hP1, hK1, hD1⟩ := hB
  rw [ht] at hP1
  have hsub : ∀ (i : Nat) (x : Nat × va_E), ws[i]? = some x → (ws ++ [(q, ev)])[i]? = some x := fun i x hi => by
    rw [List.getElem?_append_left (List.getElem?_eq_some_iff.mp hi).1]
    exact hi
  have hnot : ∀ (i : Nat) (x : Nat × va_E), ws[i]? = some x → ¬ va_A [(q, ev)] H.size x.1 := by
    intro i x hi
    have hlt := (hP i x (hsub i x hi)).lt
    rintro (⟨j, e2, hj⟩ | h3)
    · match j, hj with
      | 0, hj =>
        cases hj
        have h5 := hD.1 i ws.length _ _ (hsub i x hi) hlast rfl
        have h6 := (List.getElem?_eq_some_iff.mp hi).1
        omega
    · omega
  refine kk u H1 locs1 (va_P.app (fun i x hi => ?_) hP1) (va_D.app ⟨fun i j x y hi hj h => hD.1 i j x y (hsub i x hi) (hsub j y hj) h, fun i x hi => hD.2 i x (hsub i x hi)⟩ (hD1.weaken (fun _ _ _ h => hF _ h)) (fun i j x y hi hj h => ?_)) (hK.app (va_K.moved hvm.symm hK1)) hS1
  · exact (hP i x (hsub i x hi)).kept (hk1 x.1 (hP i x (hsub i x hi)).lt (hnot i x hi))
  · refine hnot i x hi ?_
    rw [h]
    exact hD1.2 j y hj
theorem q_astq (hx : p.tables.exec = Jvm.exec) (hb : c.code = cc) (hK : va_K D cl tys s) (hP : va_P D cl ws H) (hD : va_D A ws) (hS : va_S A H0 H locs) (q0 t0 qk ci : Nat) {a : Nat} {cA : ClassId} {r : vw_C} {n v j : Nat} {vs : List Value} {f : Nat → Option Nat} (ha : ws[q0]? = some (a, .inl (cA, n, .inr (.inr (.inr (.inr f)))))) (ht : tys[t0]? = some (cA, .object r.1)) (hv : ws[qk]? = some (v, .inr (ci, vs))) (hc : cl[ci]? = some r) (hj : j < n) (hn : n < 2 ^ 31) (he : ws.set q0 (a, .inl (cA, n, .inr (.inr (.inr (.inr (va_up f j (some v))))))) = ws') (hdg : decode cc pc = .ok (.aastore, 1)) (kk : ∀ (H1 : Heap) (locs1 : List Loc), va_P D cl ws' H1 → va_D A ws' → va_S A H0 H1 locs1 → W p l e R s m args below meth c H1 locs1 cells slots Q (F0 m (pc + 1) ls rest)) : W p l e R s m args below meth c H locs cells slots Q (F0 m pc ls (.ref v :: .int (nI j) :: .ref a :: rest)) := by
  subst he
  refine va_astq hx hb hK hP hD hS q0 t0 qk ci ha ht hv hc (vp_in_nI hj hn) hdg (fun H1 locs1 hP1 hD1 hS1 => ?_)
  rw [nI_clamp (by omega)] at hP1 hD1
  exact kk H1 locs1 hP1 hD1 hS1
end QN
