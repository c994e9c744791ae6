/-! THE LAW: what a call finds, and how two systems stand side by side -/
theorem inv_n {R C : Nat → Nat → Int32} {n d : Nat} {f g an : Nat → Int32} {q : Nat} (h : Inv (R, C, n, f, d, g) an q) : n ≤ 77 := by
  have h3 : n + 4 * sum3 (asC C) ≤ 77 := h.2.2.1
  omega
theorem inv_m {R C : Nat → Nat → Int32} {n d : Nat} {f g an : Nat → Int32} {q : Nat} (h : Inv (R, C, n, f, d, g) an q) : ∀ i, i < n → (∃ c, c < 3 ∧ f (i * 6 + 1) = nI c) ∧ (∃ r, r < 5 ∧ f (i * 6 + 2) = nI r) := h.1
theorem inv_a {R C : Nat → Nat → Int32} {n d : Nat} {f g an : Nat → Int32} {q : Nat} (h : Inv (R, C, n, f, d, g) an q) : ∀ c, c < 3 → ∃ a, a < 32 ∧ C c 4 = nI a := fun c hc => (h.2.1 c hc).2.1
theorem inv_an {R C : Nat → Nat → Int32} {n d : Nat} {f g an : Nat → Int32} {q : Nat} (h : Inv (R, C, n, f, d, g) an q) : ∀ c, c < 3 → ¬ C c 0 = 0 → an c = C c 4 := fun c hc => (h.2.1 c hc).2.2.2
theorem inv_fl {R C : Nat → Nat → Int32} {n d : Nat} {f g an : Nat → Int32} {q : Nat} (h : Inv (R, C, n, f, d, g) an q) : cnF R 5 ≤ 2 := h.2.2.2.2
theorem sum3_ge {F : Nat → Nat} {c : Nat} (hc : c < 3) : F c ≤ sum3 F := by
  unfold sum3
  rcases lt3 hc with rfl | rfl | rfl <;> omega
theorem inv_room {R C : Nat → Nat → Int32} {n d : Nat} {f g an : Nat → Int32} {q : Nat} (h : Inv (R, C, n, f, d, g) an q) : ∀ c, c < 3 → C c 0 = nI 1 → n + 4 ≤ 77 := by
  intro c hc e
  have h3 : n + 4 * sum3 (asC C) ≤ 77 := h.2.2.1
  have h6 := sum3_ge (F := asC C) hc
  rw [asC_1 e] at h6
  omega
theorem inv_d {R C : Nat → Nat → Int32} {n d : Nat} {f g an : Nat → Int32} {q : Nat} (h : Inv (R, C, n, f, d, g) an q) (hq : q ≤ 511) : d ≤ 39 := by
  have h4 : 13 * d + sum3 (wkC C) + mc f n ≤ q := h.2.2.2.1
  omega
theorem inv_dn {R C : Nat → Nat → Int32} {n d : Nat} {f g an : Nat → Int32} {q : Nat} (h : Inv (R, C, n, f, d, g) an q) (hq : q ≤ 511) : ∀ c, c < 3 → C c 0 = nI 2 → 2 ≤ bts (C c 4) → d < 39 := by
  intro c hc e e2
  have h4 : 13 * d + sum3 (wkC C) + mc f n ≤ q := h.2.2.2.1
  have h6 := sum3_ge (F := wkC C) hc
  rw [wkC_2 e] at h6
  omega
theorem inv_mono {σ : St} {an : Nat → Int32} {q : Nat} (h : Inv σ an q) : Inv σ an (q + 1) := ⟨h.1, h.2.1, h.2.2.1, Nat.le_succ_of_le h.2.2.2.1, h.2.2.2.2⟩
theorem inv_ans {R C : Nat → Nat → Int32} {n d : Nat} {f g an : Nat → Int32} {q : Nat} (h : Inv (R, C, n, f, d, g) an q) (p0 : Int32) : (if okI p0 3 then C p0.toNatClampNeg 4 else (-1)) = (if okI p0 3 then (if C p0.toNatClampNeg 0 = 0 then 0 else an p0.toNatClampNeg) else (-1)) := by
  by_cases z : okI p0 3
  · rw [if_pos z, if_pos z]
    obtain ⟨c, hc, rfl⟩ := okI_of z (by decide)
    rw [nI_clamp (by omega)]
    obtain ⟨-, -, h3, h4⟩ := h.2.1 c hc
    by_cases y : C c 0 = 0
    · rw [if_pos y]; exact h3 y
    · rw [if_neg y]; exact (h4 y).symm
  · rw [if_neg z, if_neg z]
theorem inv_start : Inv ((fun _ _ => 0), (fun _ _ => 0), 0, (fun _ => 0), 0, (fun _ => 0)) (fun _ => 0) 0 := by
  refine ⟨fun i hi => absurd hi (Nat.not_lt_zero i), fun c hc => ⟨Or.inl rfl, ⟨0, by decide, rfl⟩, fun _ => rfl, fun z => absurd rfl z⟩, ?_, ?_, ?_⟩
  · decide +kernel
  · decide +kernel
  · decide +kernel
theorem va_PL {D : va_G} {cl : List vw_C} {a b : va_W} {H : Heap} (h : va_P D cl (a ++ b) H) : va_P D cl a H := fun i x hi => h i x (by rw [List.getElem?_append_left (List.getElem?_eq_some_iff.mp hi).1]; exact hi)
theorem va_PR {D : va_G} {cl : List vw_C} {a b : va_W} {H : Heap} (h : va_P D cl (a ++ b) H) : va_P D cl b H := fun i x hi => h (a.length + i) x (by rw [List.getElem?_append_right (Nat.le_add_right _ _), Nat.add_sub_cancel_left]; exact hi)
theorem va_DL {A : Nat → Prop} {a b : va_W} (h : va_D A (a ++ b)) : va_D A a := by
  have key : ∀ (i : Nat) (x : Nat × va_E), a[i]? = some x → (a ++ b)[i]? = some x := fun i x hi => by rw [List.getElem?_append_left (List.getElem?_eq_some_iff.mp hi).1]; exact hi
  exact ⟨fun i j x y hi hj e => h.1 i j x y (key i x hi) (key j y hj) e, fun i x hi => h.2 i x (key i x hi)⟩
theorem va_DR {A : Nat → Prop} {a b : va_W} (h : va_D A (a ++ b)) : va_D A b := by
  have key : ∀ (i : Nat) (x : Nat × va_E), b[i]? = some x → (a ++ b)[a.length + i]? = some x := fun i x hi => by rw [List.getElem?_append_right (Nat.le_add_right _ _), Nat.add_sub_cancel_left]; exact hi
  exact ⟨fun i j x y hi hj e => by have := h.1 _ _ x y (key i x hi) (key j y hj) e; omega, fun i x hi => h.2 _ x (key i x hi)⟩
theorem va_Dx {A : Nat → Prop} {a b : va_W} (h : va_D A (a ++ b)) {i j : Nat} {x y : Nat × va_E} (hi : a[i]? = some x) (hj : b[j]? = some y) : x.1 ≠ y.1 := fun e => by
  have hlt := (List.getElem?_eq_some_iff.mp hi).1
  have h1 : (a ++ b)[i]? = some x := by rw [List.getElem?_append_left hlt]; exact hi
  have h2 : (a ++ b)[a.length + j]? = some y := by rw [List.getElem?_append_right (Nat.le_add_right _ _), Nat.add_sub_cancel_left]; exact hj
  have := h.1 i (a.length + j) x y h1 h2 e
  omega
theorem qFitL {A : Nat → Prop} {a b a' : va_W} (hD : va_D A (a ++ b)) (e : a'.map Prod.fst = a.map Prod.fst) : qFit (a ++ b) a a' (a' ++ b) := by
  have hlen : a'.length = a.length := by have := congrArg List.length e; simpa using this
  refine ⟨fun j q h => ⟨j, by rw [List.getElem?_append_left (List.getElem?_eq_some_iff.mp h).1]; exact h⟩, fun k q h => ?_, by rw [List.map_append, List.map_append, e]⟩
  rcases Nat.lt_or_ge k a'.length with z | z
  · rw [List.getElem?_append_left z] at h
    exact Or.inl ⟨k, h⟩
  · rw [List.getElem?_append_right z] at h
    refine Or.inr ⟨by rw [List.getElem?_append_right (by omega), ← hlen]; exact h, fun j q' hj => ?_⟩
    exact va_Dx hD hj h
theorem qFitR {A : Nat → Prop} {a b b' : va_W} (hD : va_D A (a ++ b)) (e : b'.map Prod.fst = b.map Prod.fst) : qFit (a ++ b) b b' (a ++ b') := by
  refine ⟨fun j q h => ⟨a.length + j, by rw [List.getElem?_append_right (Nat.le_add_right _ _), Nat.add_sub_cancel_left]; exact h⟩, fun k q h => ?_, by rw [List.map_append, List.map_append, e]⟩
  rcases Nat.lt_or_ge k a.length with z | z
  · rw [List.getElem?_append_left z] at h
    refine Or.inr ⟨by rw [List.getElem?_append_left z]; exact h, fun j q' hj => ?_⟩
    exact fun y => va_Dx hD h hj y.symm
  · rw [List.getElem?_append_right z] at h
    exact Or.inl ⟨_, h⟩
section QL
variable {p : Program} {l : Launch} {e : Env} {R : Room} {s : State} {m : MethodId} {args : Array Value} {below : List Frame} {meth : Method} {c : Code} {H H0 : Heap} {locs : List Loc} {cells slots : Nat} {Q : State → Prop} {cc : ByteArray} {pc : Nat} {ls : Array Slot} {rest : List Value} {A : Nat → Prop}
theorem q_sld (hx : p.tables.exec = Jvm.exec) (hb : c.code = cc) {b L j : Nat} {xs : Nat → Int32} (hX : va_X b L xs s H0) (hbl : b < H0.size) (hbA : ¬ A b) (hS : va_S A H0 H locs) (hj : j < L) (hL : L < 2 ^ 31) (hdg : decode cc pc = .ok (.iaload, 1)) (kk : W p l e R s m args below meth c H locs cells slots Q (F0 m (pc + 1) ls (.int (xs j) :: rest))) : W p l e R s m args below meth c H locs cells slots Q (F0 m pc ls (.int (nI j) :: .ref b :: rest)) := by
  refine va_sld hx hb hX hbl hbA hS (vp_in_nI hj hL) hdg ?_
  rw [nI_clamp (by omega)]
  exact kk
end QL
theorem lp_in {i L : Nat} (hi : i < 2 ^ 30) (hL : L < 2 ^ 30) (h : ¬ nI L - nI 3 < nI i) : i + 3 ≤ L := by
  rw [Int32.lt_iff_toInt_lt, pk_sub_toInt hL (by decide), nI_toInt (by omega)] at h
  omega
/-- the law's walk, with the room as it is behind the two constructors -/
def LW (p : Program) (l : Launch) (e : Env) (s : State) (m : MethodId) (below : List Frame) (meth : Method) (cd : Code) (b : Nat) (H : Heap) (locs : List Loc) (g : JFrame) : Prop := W p l e room_1 s m #[Value.ref b] below meth cd H locs 29 3931 (lw_Z below #[Value.ref b] s) g
def LK (p : Program) (l : Launch) (e : Env) (s : State) (m : MethodId) (below : List Frame) (meth : Method) (cd : Code) (b : Nat) (dC : Nat → ClassId) (dI : Nat → Nat → Nat) (o : Nat → Nat) (k : Nat → ClassId) (o2 : Nat → Nat) (k2 : Nat → ClassId) (i q : Nat) : Prop := ∀ (σ : St) (an : Nat → Int32) (H : Heap) (locs : List Loc) (ls : Array Slot), Inv σ an (q + 1) → va_P (dC, dI) vwCl (wS o k σ ++ wMs o2 k2 σ an) H → va_D (fun q : Nat => s.heap.size ≤ q) (wS o k σ ++ wMs o2 k2 σ an) → va_S (fun q : Nat => s.heap.size ≤ q) s.heap H locs → lv_has ls 4 [(0, .ref b), (1, .ref (o 0)), (2, .ref (o2 0)), (3, .int (nI i))] → LW p l e s m below meth cd b H locs (F0 m 490 ls [])
