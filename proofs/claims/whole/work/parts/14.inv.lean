/-! WHAT HOLDS between the calls: k calls have been made -/
def pr (f : Nat → Int32) (i : Nat) : Nat := if f (i * 6 + 0) = nI 0 ∨ f (i * 6 + 0) = nI 2 then 0 else 1
def mc (f : Nat → Int32) : Nat → Nat
  | 0 => 0
  | n + 1 => mc f n + pr f n
def okm (f : Nat → Int32) (n : Nat) : Prop := ∀ i, i < n → (∃ c, c < 3 ∧ f (i * 6 + 1) = nI c) ∧ (∃ r, r < 5 ∧ f (i * 6 + 2) = nI r)
def sum3 (F : Nat → Nat) : Nat := F 0 + F 1 + F 2
def asC (C : Nat → Nat → Int32) (c : Nat) : Nat := if C c 0 = nI 1 then 1 else 0
def wkC (C : Nat → Nat → Int32) (c : Nat) : Nat := if C c 0 = nI 1 then 1 + 2 * bts (C c 4) else if C c 0 = nI 2 then 7 + 2 * bts (C c 4) else 0
def Cok (C : Nat → Nat → Int32) (an : Nat → Int32) : Prop := ∀ c, c < 3 → (C c 0 = nI 0 ∨ C c 0 = nI 1 ∨ C c 0 = nI 2) ∧ (∃ a, a < 32 ∧ C c 4 = nI a) ∧ (C c 0 = 0 → C c 4 = 0) ∧ (¬ C c 0 = 0 → an c = C c 4)
def Inv (σ : St) (an : Nat → Int32) (k : Nat) : Prop := okm σ.2.2.2.1 σ.2.2.1 ∧ Cok σ.2.1 an ∧ σ.2.2.1 + 4 * sum3 (asC σ.2.1) ≤ 77 ∧ 13 * σ.2.2.2.2.1 + sum3 (wkC σ.2.1) + mc σ.2.2.2.1 σ.2.2.1 ≤ k ∧ cnF σ.1 5 ≤ 2
theorem sum3_at {F F' : Nat → Nat} {c : Nat} (hc : c < 3) (h : ∀ q, q ≠ c → F' q = F q) : sum3 F' + F c = sum3 F + F' c := by
  unfold sum3
  rcases lt3 hc with rfl | rfl | rfl
  · rw [h 1 (by decide), h 2 (by decide)]; omega
  · rw [h 0 (by decide), h 2 (by decide)]; omega
  · rw [h 0 (by decide), h 1 (by decide)]; omega
theorem asC_le (C : Nat → Nat → Int32) (c : Nat) : asC C c ≤ 1 := by unfold asC; split <;> omega
theorem sum3_as (C : Nat → Nat → Int32) : sum3 (asC C) ≤ 3 := by
  have h0 := asC_le C 0; have h1 := asC_le C 1; have h2 := asC_le C 2
  unfold sum3; omega
theorem pr_le (f : Nat → Int32) (i : Nat) : pr f i ≤ 1 := by unfold pr; split <;> omega
theorem mc_congr {f f' : Nat → Int32} {n : Nat} (h : ∀ i, i < n → f' (i * 6 + 0) = f (i * 6 + 0)) : mc f' n = mc f n := by
  induction n with
  | zero => rfl
  | succ n ih =>
    unfold mc
    rw [ih (fun i hi => h i (by omega))]
    unfold pr
    rw [h n (by omega)]
theorem snd6_old {f : Nat → Int32} {n q : Nat} {kd c r s t v : Int32} (h : q < n * 6) : snd6 f n kd c r s t v q = f q := by
  unfold snd6
  rw [pk_un (by omega), pk_un (by omega), pk_un (by omega), pk_un (by omega), pk_un (by omega), pk_un (by omega)]
theorem snd6_0 {f : Nat → Int32} {n : Nat} {kd c r s t v : Int32} : snd6 f n kd c r s t v (n * 6 + 0) = kd := by
  unfold snd6
  rw [pk_un (by omega), pk_un (by omega), pk_un (by omega), pk_un (by omega), pk_un (by omega), pk_us]
theorem snd6_1 {f : Nat → Int32} {n : Nat} {kd c r s t v : Int32} : snd6 f n kd c r s t v (n * 6 + 1) = c := by
  unfold snd6
  rw [pk_un (by omega), pk_un (by omega), pk_un (by omega), pk_un (by omega), pk_us]
theorem snd6_2 {f : Nat → Int32} {n : Nat} {kd c r s t v : Int32} : snd6 f n kd c r s t v (n * 6 + 2) = r := by
  unfold snd6
  rw [pk_un (by omega), pk_un (by omega), pk_un (by omega), pk_us]
theorem mc_snd {f : Nat → Int32} {n : Nat} {kd c r s t v : Int32} : mc (snd6 f n kd c r s t v) (n + 1) = mc f n + (if kd = nI 0 ∨ kd = nI 2 then 0 else 1) := by
  show mc (snd6 f n kd c r s t v) n + pr (snd6 f n kd c r s t v) n = _
  rw [mc_congr (f := f) (fun i hi => snd6_old (by omega))]
  unfold pr
  rw [snd6_0]
theorem okm_snd {f : Nat → Int32} {n : Nat} {kd s t v : Int32} {zc zr : Int32} (h : okm f n) (hc : ∃ c, c < 3 ∧ zc = nI c) (hr : ∃ r, r < 5 ∧ zr = nI r) : okm (snd6 f n kd zc zr s t v) (n + 1) := by
  intro i hi
  rcases Nat.lt_or_ge i n with q | q
  · rw [snd6_old (by omega), snd6_old (by omega)]
    exact h i q
  · have e : i = n := by omega
    subst e
    rw [snd6_1, snd6_2]
    exact ⟨hc, hr⟩
theorem sndN_ok {f : Nat → Int32} {n c : Nat} {kd s t v : Int32} (h : okm f n) (hc : c < 3) (hk : kd = nI 0 ∨ kd = nI 2) : ∀ j, j ≤ 5 → okm (sndN kd (nI c) s t v f n j) (n + j) ∧ mc (sndN kd (nI c) s t v f n j) (n + j) = mc f n := by
  intro j
  induction j with
  | zero => exact fun _ => ⟨h, rfl⟩
  | succ j ih =>
    intro hj
    obtain ⟨h1, h2⟩ := ih (by omega)
    refine ⟨okm_snd h1 ⟨c, hc, rfl⟩ ⟨j, by omega, rfl⟩, ?_⟩
    show mc (snd6 (sndN kd (nI c) s t v f n j) (n + j) kd (nI c) (nI j) s t v) (n + j + 1) = mc f n
    rw [mc_snd, if_pos hk, h2]
    rfl
theorem drp_lo {f : Nat → Int32} {n i j b : Nat} (hj : j < i) (hb : b < 6) : drp f n i (j * 6 + b) = f (j * 6 + b) := pk_cpy_out (by omega)
theorem drp_hi {f : Nat → Int32} {n i j b : Nat} (hi : i ≤ j) (hj : j + 1 < n) (hb : b < 6) : drp f n i (j * 6 + b) = f ((j + 1) * 6 + b) := by
  unfold drp
  rw [pk_cpy_in (by omega) (by omega)]
  congr 1
  omega
theorem okm_drp {f : Nat → Int32} {n i : Nat} (h : okm f n) : okm (drp f n i) (n - 1) := by
  intro j hj
  rcases Nat.lt_or_ge j i with q | q
  · rw [drp_lo q (by decide), drp_lo q (by decide)]
    exact h j (by omega)
  · rw [drp_hi q (by omega) (by decide), drp_hi q (by omega) (by decide)]
    exact h (j + 1) (by omega)
theorem mc_drp {f : Nat → Int32} {n i : Nat} (hi : i < n) : mc (drp f n i) (n - 1) + pr f i = mc f n := by
  have key : ∀ m, m + 1 ≤ n → (m ≤ i → mc (drp f n i) m = mc f m) ∧ (i ≤ m → mc (drp f n i) m + pr f i = mc f (m + 1)) := by
    intro m
    induction m with
    | zero =>
      intro hm
      refine ⟨fun _ => rfl, fun h0 => ?_⟩
      have e : i = 0 := by omega
      subst e
      rfl
    | succ m ih =>
      intro hm
      obtain ⟨h1, h2⟩ := ih (by omega)
      refine ⟨fun hle => ?_, fun hge => ?_⟩
      · show mc (drp f n i) m + pr (drp f n i) m = mc f m + pr f m
        rw [h1 (by omega)]
        unfold pr
        rw [drp_lo (by omega) (by decide)]
      · show mc (drp f n i) m + pr (drp f n i) m + pr f i = mc f (m + 1) + pr f (m + 1)
        rcases Nat.lt_or_ge m i with q | q
        · have e : i = m + 1 := by omega
          subst e
          rw [h1 (by omega)]
          have e2 : pr (drp f n (m + 1)) m = pr f m := by
            unfold pr
            rw [drp_lo (by omega) (by decide)]
          rw [e2]
          rfl
        · have e2 : pr (drp f n i) m = pr f (m + 1) := by
            unfold pr
            rw [drp_hi q (by omega) (by decide)]
          rw [e2, ← h2 q]
          omega
  have h := (key (n - 1) (by omega)).2 (by omega)
  rw [h, show n - 1 + 1 = n by omega]
theorem bits_up : ∀ a, a < 32 → ∀ r, r < 5 → nI a &&& (nI 1 <<< (nI r &&& 31)) = 0 → bits (a ||| 2 ^ r) = bits a + 1 := by decide +kernel
theorem bts_0 : bts (nI 0) = 0 := by decide +kernel
theorem n01 : ¬ nI 0 = nI 1 := by decide +kernel
theorem n02 : ¬ nI 0 = nI 2 := by decide +kernel
theorem n10 : ¬ nI 1 = nI 0 := by decide +kernel
theorem n12 : ¬ nI 1 = nI 2 := by decide +kernel
theorem n20 : ¬ nI 2 = nI 0 := by decide +kernel
theorem n21 : ¬ nI 2 = nI 1 := by decide +kernel
theorem asC_ne {C C' : Nat → Nat → Int32} {c : Nat} (h : ∀ q b, q ≠ c → C' q b = C q b) : ∀ q, q ≠ c → asC C' q = asC C q := fun q hq => by
  unfold asC
  rw [h q 0 hq]
theorem wkC_ne {C C' : Nat → Nat → Int32} {c : Nat} (h : ∀ q b, q ≠ c → C' q b = C q b) : ∀ q, q ≠ c → wkC C' q = wkC C q := fun q hq => by
  unfold wkC
  rw [h q 0 hq, h q 4 hq]
theorem Cok_at {C C' : Nat → Nat → Int32} {an an' : Nat → Int32} {c : Nat} (h : Cok C an) (hne : ∀ q b, q ≠ c → C' q b = C q b) (hv : (C' c 0 = nI 0 ∨ C' c 0 = nI 1 ∨ C' c 0 = nI 2) ∧ (∃ a, a < 32 ∧ C' c 4 = nI a) ∧ (C' c 0 = 0 → C' c 4 = 0)) (hu : ∀ q, q < 3 → ¬ C' q 0 = 0 → an' q = C' q 4) : Cok C' an' := by
  intro q hq
  by_cases z : q = c
  · subst z
    exact ⟨hv.1, hv.2.1, hv.2.2, hu q hq⟩
  · obtain ⟨h1, h2, h3, h4⟩ := h q hq
    refine ⟨by rw [hne q 0 z]; exact h1, by rw [hne q 4 z]; exact h2, by rw [hne q 0 z, hne q 4 z]; exact h3, hu q hq⟩
theorem begC_ne {C : Nat → Nat → Int32} {c q b : Nat} {w v : Int32} (h : q ≠ c) : begC C c w v q b = C q b := by simp [begC, up2, h]
theorem begC_0 {C : Nat → Nat → Int32} {c : Nat} {w v : Int32} : begC C c w v c 0 = nI 1 := by simp [begC, up2]
theorem begC_4 {C : Nat → Nat → Int32} {c : Nat} {w v : Int32} : begC C c w v c 4 = nI 0 := by simp [begC, up2]
theorem idlC_0 {C : Nat → Nat → Int32} {c : Nat} : idlC C c c 0 = nI 0 := by simp [idlC, up2]
theorem idlC_4 {C : Nat → Nat → Int32} {c : Nat} : idlC C c c 4 = nI 0 := by simp [idlC, up2]
theorem stoC_0 {C : Nat → Nat → Int32} {c : Nat} : stoC C c c 0 = nI 2 := by simp [stoC, up2]
theorem telC_0 {C : Nat → Nat → Int32} {c : Nat} {r t v : Int32} : telC C c r t v c 0 = C c 0 := by
  unfold telC heaC
  split <;> simp [up2]
theorem heaC_0 {C : Nat → Nat → Int32} {c : Nat} {r : Int32} : heaC C c r c 0 = C c 0 := by simp [heaC, up2]
theorem asC_1 {C : Nat → Nat → Int32} {c : Nat} (h : C c 0 = nI 1) : asC C c = 1 := if_pos h
theorem asC_z {C : Nat → Nat → Int32} {c : Nat} (h : ¬ C c 0 = nI 1) : asC C c = 0 := if_neg h
theorem wkC_1 {C : Nat → Nat → Int32} {c : Nat} (h : C c 0 = nI 1) : wkC C c = 1 + 2 * bts (C c 4) := if_pos h
theorem wkC_2 {C : Nat → Nat → Int32} {c : Nat} (h : C c 0 = nI 2) : wkC C c = 7 + 2 * bts (C c 4) := by
  unfold wkC
  rw [if_neg (by rw [h]; exact n21), if_pos h]
theorem wkC_0 {C : Nat → Nat → Int32} {c : Nat} (h : C c 0 = nI 0) : wkC C c = 0 := by
  unfold wkC
  rw [if_neg (by rw [h]; exact n01), if_neg (by rw [h]; exact n02)]
/-- the parts of the state at a client's change: what the sums become -/
theorem sums_at {C C' : Nat → Nat → Int32} {c : Nat} (hc : c < 3) (hne : ∀ q b, q ≠ c → C' q b = C q b) : sum3 (asC C') + asC C c = sum3 (asC C) + asC C' c ∧ sum3 (wkC C') + wkC C c = sum3 (wkC C) + wkC C' c := ⟨sum3_at hc (asC_ne hne), sum3_at hc (wkC_ne hne)⟩
theorem inv_begin {σ : St} {an : Nat → Int32} {k : Nat} {p0 w v : Int32} (h : Inv σ an k) : Inv (bgS σ p0 w v) (bgA σ an p0) (k + 1) := by
  obtain ⟨R, C, n, f, d, g⟩ := σ
  obtain ⟨h1, h2, h3, h4, h5⟩ := h
  change okm f n at h1
  change Cok C an at h2
  change n + 4 * sum3 (asC C) ≤ 77 at h3
  change 13 * d + sum3 (wkC C) + mc f n ≤ k at h4
  change cnF R 5 ≤ 2 at h5
  unfold bgS bgA
  by_cases q : okI p0 3 ∧ C p0.toNatClampNeg 0 = 0 ∧ ¬ 60 < n
  · rw [if_pos q, if_pos q]
    obtain ⟨q1, q2, q3⟩ := q
    obtain ⟨c, hc, rfl⟩ := okI_of q1 (by decide)
    rw [nI_clamp (by omega)] at q2 ⊢
    have hne : ∀ q b, q ≠ c → begC C c w v q b = C q b := fun q b hq => begC_ne hq
    obtain ⟨s1, s2⟩ := sums_at hc hne
    rw [asC_1 begC_0, asC_z (by rw [show C c 0 = nI 0 from q2]; exact n01)] at s1
    rw [wkC_1 begC_0, begC_4, bts_0, wkC_0 (show C c 0 = nI 0 from q2)] at s2
    obtain ⟨m1, m2⟩ := sndN_ok (s := C c 1 + nI 1) (t := nI 0) (v := nI 0) h1 hc (Or.inl rfl) 5 (Nat.le_refl 5)
    have h6 := sum3_as (begC C c w v)
    refine ⟨m1, Cok_at h2 hne ⟨Or.inr (Or.inl begC_0), ⟨0, by decide, begC_4⟩, fun z => begC_4⟩ ?_, ?_, ?_, h5⟩
    · intro q hq hz
      by_cases e : q = c
      · subst e
        show upd an q (nI 0) q = begC C q w v q 4
        rw [pk_us, begC_4]
      · show upd an c (nI 0) q = begC C c w v q 4
        rw [pk_un e, begC_ne e]
        exact (h2 q hq).2.2.2 (fun y => hz (by show begC C c w v q 0 = 0; rw [begC_ne e]; exact y))
    · show n + 5 + 4 * sum3 (asC (begC C c w v)) ≤ 77
      omega
    · show 13 * d + sum3 (wkC (begC C c w v)) + mc (sndN (nI 0) (nI c) (C c 1 + nI 1) (nI 0) (nI 0) f n 5) (n + 5) ≤ k + 1
      rw [m2]
      have h4' : 13 * d + sum3 (wkC C) + mc f n ≤ k := h4
      omega
  · rw [if_neg q, if_neg q]
    exact ⟨h1, h2, h3, Nat.le_succ_of_le h4, h5⟩
theorem inv_leave {σ : St} {an : Nat → Int32} {k : Nat} {p0 : Int32} (h : Inv σ an k) : Inv (lvS σ p0) an (k + 1) := by
  obtain ⟨R, C, n, f, d, g⟩ := σ
  obtain ⟨h1, h2, h3, h4, h5⟩ := h
  change okm f n at h1
  change Cok C an at h2
  change n + 4 * sum3 (asC C) ≤ 77 at h3
  change 13 * d + sum3 (wkC C) + mc f n ≤ k at h4
  change cnF R 5 ≤ 2 at h5
  unfold lvS
  by_cases q : okI p0 3 ∧ ¬ C p0.toNatClampNeg 0 = 0
  · rw [if_pos q]
    obtain ⟨q1, q2⟩ := q
    obtain ⟨c, hc, rfl⟩ := okI_of q1 (by decide)
    rw [nI_clamp (by omega)] at q2 ⊢
    have hne : ∀ q b, q ≠ c → idlC C c q b = C q b := fun q b hq => idlC_ne hq
    obtain ⟨s1, s2⟩ := sums_at hc hne
    rw [asC_z (C := idlC C c) (by rw [idlC_0]; exact n01)] at s1
    rw [wkC_0 idlC_0] at s2
    refine ⟨h1, Cok_at h2 hne ⟨Or.inl idlC_0, ⟨0, by decide, idlC_4⟩, fun z => idlC_4⟩ ?_, ?_, ?_, h5⟩
    · intro q hq hz
      by_cases e : q = c
      · subst e
        exact absurd (show idlC C q q 0 = 0 from idlC_0) hz
      · show an q = idlC C c q 4
        rw [idlC_ne e]
        exact (h2 q hq).2.2.2 (fun y => hz (by show idlC C c q 0 = 0; rw [idlC_ne e]; exact y))
    · show n + 4 * sum3 (asC (idlC C c)) ≤ 77
      have h3' : n + 4 * sum3 (asC C) ≤ 77 := h3
      omega
    · show 13 * d + sum3 (wkC (idlC C c)) + mc f n ≤ k + 1
      have h4' : 13 * d + sum3 (wkC C) + mc f n ≤ k := h4
      omega
  · rw [if_neg q]
    exact ⟨h1, h2, h3, Nat.le_succ_of_le h4, h5⟩
theorem inv_lose {σ : St} {an : Nat → Int32} {k : Nat} {p0 : Int32} (h : Inv σ an k) : Inv (lsS σ p0) an (k + 1) := by
  obtain ⟨R, C, n, f, d, g⟩ := σ
  obtain ⟨h1, h2, h3, h4, h5⟩ := h
  change okm f n at h1
  change Cok C an at h2
  change n + 4 * sum3 (asC C) ≤ 77 at h3
  change 13 * d + sum3 (wkC C) + mc f n ≤ k at h4
  change cnF R 5 ≤ 2 at h5
  unfold lsS
  have h3' : n + 4 * sum3 (asC C) ≤ 77 := h3
  have h4' : 13 * d + sum3 (wkC C) + mc f n ≤ k := h4
  by_cases q : okI p0 n
  · rw [if_pos q]
    obtain ⟨i, hi, rfl⟩ := okI_of q (by omega)
    rw [nI_clamp (by omega)]
    refine ⟨okm_drp h1, h2, ?_, ?_, h5⟩
    · show n - 1 + 4 * sum3 (asC C) ≤ 77
      omega
    · show 13 * d + sum3 (wkC C) + mc (drp f n i) (n - 1) ≤ k + 1
      have := mc_drp (f := f) hi
      omega
  · rw [if_neg q]
    exact ⟨h1, h2, h3, Nat.le_succ_of_le h4, h5⟩
theorem inv_repeat {σ : St} {an : Nat → Int32} {k : Nat} {p0 : Int32} (h : Inv σ an k) : Inv (rpS σ p0) an (k + 1) := by
  obtain ⟨R, C, n, f, d, g⟩ := σ
  obtain ⟨h1, h2, h3, h4, h5⟩ := h
  change okm f n at h1
  change Cok C an at h2
  change n + 4 * sum3 (asC C) ≤ 77 at h3
  change 13 * d + sum3 (wkC C) + mc f n ≤ k at h4
  change cnF R 5 ≤ 2 at h5
  unfold rpS
  have h3' : n + 4 * sum3 (asC C) ≤ 77 := h3
  have h4' : 13 * d + sum3 (wkC C) + mc f n ≤ k := h4
  by_cases q : okI p0 n ∧ ¬ 60 < n
  · rw [if_pos q]
    obtain ⟨q1, q2⟩ := q
    obtain ⟨i, hi, rfl⟩ := okI_of q1 (by omega)
    rw [nI_clamp (by omega)]
    show Inv (R, C, n + 1, va_cpy f f (i * 6) (n * 6) 6, d, g) an (k + 1)
    rw [← rep_eq]
    have h6 := sum3_as C
    refine ⟨okm_snd h1 (h1 i hi).1 (h1 i hi).2, h2, ?_, ?_, h5⟩
    · show n + 1 + 4 * sum3 (asC C) ≤ 77
      omega
    · show 13 * d + sum3 (wkC C) + mc (snd6 f n (f (i * 6)) (f (i * 6 + 1)) (f (i * 6 + 2)) (f (i * 6 + 3)) (f (i * 6 + 4)) (f (i * 6 + 5))) (n + 1) ≤ k + 1
      rw [mc_snd]
      split <;> omega
  · rw [if_neg q]
    exact ⟨h1, h2, h3, Nat.le_succ_of_le h4, h5⟩
theorem inv_fail {σ : St} {an : Nat → Int32} {k : Nat} {p0 : Int32} (h : Inv σ an k) : Inv (flS σ p0) an (k + 1) := by
  obtain ⟨R, C, n, f, d, g⟩ := σ
  obtain ⟨h1, h2, h3, h4, h5⟩ := h
  change okm f n at h1
  change Cok C an at h2
  change n + 4 * sum3 (asC C) ≤ 77 at h3
  change 13 * d + sum3 (wkC C) + mc f n ≤ k at h4
  change cnF R 5 ≤ 2 at h5
  unfold flS
  by_cases q : okI p0 5 ∧ R p0.toNatClampNeg 2 = 0 ∧ cnF R 5 < 2
  · rw [if_pos q]
    obtain ⟨q1, q2, q3⟩ := q
    obtain ⟨j, hj, rfl⟩ := okI_of q1 (by decide)
    rw [nI_clamp (by omega)] at q2 ⊢
    refine ⟨h1, h2, h3, Nat.le_succ_of_le h4, ?_⟩
    show cnF (up2 R j 2 (nI 1)) 5 ≤ 2
    rw [cnF_up hj q2]
    omega
  · rw [if_neg q]
    exact ⟨h1, h2, h3, Nat.le_succ_of_le h4, h5⟩
theorem tel_b {C : Nat → Nat → Int32} {c r a : Nat} {ph s : Int32} (hr : r < 5) (ha : a < 32) (e : C c 4 = nI a) (h : aw (C c) ph (nI r) s) : bts (C c 4 ||| (nI 1 <<< (nI r &&& 31))) = bts (C c 4) + 1 ∧ ∃ b, b < 32 ∧ C c 4 ||| (nI 1 <<< (nI r &&& 31)) = nI b := by
  have h4 := h.2.2
  rw [e] at h4 ⊢
  obtain ⟨x1, x2⟩ := hear_bits a ha r hr
  rw [x1, bts_nI x2, bts_nI ha]
  exact ⟨bits_up a ha r hr h4, _, x2, rfl⟩
/-- a message is delivered -/
theorem inv_msg {R C : Nat → Nat → Int32} {n d : Nat} {f g an u : Nat → Int32} {k c r : Nat} {kd s t v : Int32} (h1 : okm f n) (h2 : Cok C an) (h3 : n + 1 + 4 * sum3 (asC C) ≤ 77) (h4 : 13 * d + sum3 (wkC C) + mc f n + (if kd = nI 0 ∨ kd = nI 2 then 0 else 1) ≤ k) (h5 : cnF R 5 ≤ 2) (hc : c < 3) (hr : r < 5) (hu : ∀ q, q < 3 → ¬ (dlM (R, C, n, f, d, g) kd c r s t v).2.1 q 0 = 0 → u q = (dlM (R, C, n, f, d, g) kd c r s t v).2.1 q 4) : Inv (dlM (R, C, n, f, d, g) kd c r s t v) u (k + 1) := by
  have same : ∀ (σ' : St), σ' = (R, C, n, f, d, g) → (∀ q, q < 3 → ¬ σ'.2.1 q 0 = 0 → u q = σ'.2.1 q 4) → Inv σ' u (k + 1) := by
    intro σ' e hz
    subst e
    have h4' : 13 * d + sum3 (wkC C) + mc f n ≤ k := Nat.le_trans (Nat.le_add_right _ _) h4
    refine ⟨h1, fun q hq => ⟨(h2 q hq).1, (h2 q hq).2.1, (h2 q hq).2.2.1, hz q hq⟩, ?_, Nat.le_succ_of_le h4', h5⟩
    show n + 4 * sum3 (asC C) ≤ 77
    omega
  by_cases k0 : kd = nI 0
  · rw [dlM_0 k0] at hu ⊢
    rw [if_pos (Or.inl k0)] at h4
    unfold stAsk at hu ⊢
    by_cases z : (R, C, n, f, d, g).1 r 2 = 0
    · rw [if_pos z] at hu ⊢
      refine ⟨okm_snd h1 ⟨c, hc, rfl⟩ ⟨r, hr, rfl⟩, fun q hq => ⟨(h2 q hq).1, (h2 q hq).2.1, (h2 q hq).2.2.1, hu q hq⟩, h3, ?_, h5⟩
      show 13 * d + sum3 (wkC C) + mc (snd6 f n (nI 1) (nI c) (nI r) s (R r 0) (R r 1)) (n + 1) ≤ k + 1
      rw [mc_snd]
      split <;> omega
    · rw [if_neg z] at hu ⊢
      exact same _ rfl hu
  by_cases k1 : kd = nI 1
  · rw [dlM_1 k1] at hu ⊢
    rw [if_neg (by rw [k1]; rintro (q | q); · exact n10 q
                   · exact n12 q)] at h4
    unfold stTel at hu ⊢
    by_cases z : aw ((R, C, n, f, d, g).2.1 c) (nI 1) (nI r) s
    · rw [if_pos z] at hu ⊢
      have z : aw (C c) (nI 1) (nI r) s := z
      obtain ⟨a, la, ea⟩ := (h2 c hc).2.1
      obtain ⟨b1, b2, lb, eb⟩ := tel_b hr la ea z
      have hne : ∀ q b, q ≠ c → telC C c (nI r) t v q b = C q b := fun q b hq => telC_ne hq
      obtain ⟨s1, s2⟩ := sums_at hc hne
      have t0 : telC C c (nI r) t v c 0 = nI 1 := telC_0.trans z.2.1
      rw [asC_1 t0, asC_1 z.2.1] at s1
      rw [wkC_1 t0, wkC_1 z.2.1, telC4, b1] at s2
      by_cases y : 3 ≤ bts (telC (R, C, n, f, d, g).2.1 c (nI r) t v c 4)
      · rw [if_pos y] at hu ⊢
        have y : 3 ≤ bts (telC C c (nI r) t v c 4) := y
        rw [telC4, b1] at y
        have hnf : ∀ q b, q ≠ c → stoC (telC C c (nI r) t v) c q b = C q b := fun q b hq => (stoC_ne hq).trans (telC_ne hq)
        obtain ⟨v1, v2⟩ := sums_at hc hnf
        rw [asC_z (C := stoC (telC C c (nI r) t v) c) (by rw [stoC_0]; exact n21), asC_1 z.2.1] at v1
        rw [wkC_2 stoC_0, sto4, bts_0, wkC_1 z.2.1] at v2
        obtain ⟨m1, m2⟩ := sndN_ok (s := telC C c (nI r) t v c 1) (t := stoC (telC C c (nI r) t v) c c 5) (v := stoC (telC C c (nI r) t v) c c 6) h1 hc (Or.inr rfl) 5 (Nat.le_refl 5)
        refine ⟨m1, Cok_at h2 hnf ⟨Or.inr (Or.inr stoC_0), ⟨0, by decide, sto4⟩, fun _ => sto4⟩ hu, ?_, ?_, h5⟩
        · show n + 5 + 4 * sum3 (asC (stoC (telC C c (nI r) t v) c)) ≤ 77
          omega
        · show 13 * d + sum3 (wkC (stoC (telC C c (nI r) t v) c)) + mc (sndN (nI 2) (nI c) (telC C c (nI r) t v c 1) (stoC (telC C c (nI r) t v) c c 5) (stoC (telC C c (nI r) t v) c c 6) f n 5) (n + 5) ≤ k + 1
          rw [m2]
          omega
      · rw [if_neg y] at hu ⊢
        refine ⟨h1, Cok_at h2 hne ⟨Or.inr (Or.inl t0), ⟨b2, lb, telC4.trans eb⟩, fun q => absurd (t0.symm.trans q) n10⟩ hu, ?_, ?_, h5⟩
        · show n + 4 * sum3 (asC (telC C c (nI r) t v)) ≤ 77
          omega
        · show 13 * d + sum3 (wkC (telC C c (nI r) t v)) + mc f n ≤ k + 1
          omega
    · rw [if_neg z] at hu ⊢
      exact same _ rfl hu
  by_cases k2 : kd = nI 2
  · rw [dlM_2 k2] at hu ⊢
    rw [if_pos (Or.inr k2)] at h4
    unfold stStr at hu ⊢
    by_cases z : (R, C, n, f, d, g).1 r 2 = 0
    · rw [if_pos z] at hu ⊢
      refine ⟨okm_snd h1 ⟨c, hc, rfl⟩ ⟨r, hr, rfl⟩, fun q hq => ⟨(h2 q hq).1, (h2 q hq).2.1, (h2 q hq).2.2.1, hu q hq⟩, h3, ?_, ?_⟩
      · show 13 * d + sum3 (wkC C) + mc (snd6 f n (nI 3) (nI c) (nI r) s (nI 0) (nI 0)) (n + 1) ≤ k + 1
        rw [mc_snd]
        split <;> omega
      · show cnF (if t ≤ R r 0 then R else up2 (up2 R r 0 t) r 1 v) 5 ≤ 2
        split
        · exact h5
        · rw [cnF_01]; exact h5
    · rw [if_neg z] at hu ⊢
      exact same _ rfl hu
  · rw [dlM_3 k0 k1 k2] at hu ⊢
    rw [if_neg (fun q => q.elim k0 k2)] at h4
    unfold stStd at hu ⊢
    by_cases z : aw ((R, C, n, f, d, g).2.1 c) (nI 2) (nI r) s
    · rw [if_pos z] at hu ⊢
      have z : aw (C c) (nI 2) (nI r) s := z
      obtain ⟨a, la, ea⟩ := (h2 c hc).2.1
      obtain ⟨b1, b2, lb, eb⟩ := tel_b hr la ea z
      have hne : ∀ q b, q ≠ c → heaC C c (nI r) q b = C q b := fun q b hq => heaC_ne hq
      obtain ⟨s1, s2⟩ := sums_at hc hne
      have t0 : heaC C c (nI r) c 0 = nI 2 := heaC_0.trans z.2.1
      rw [asC_z (C := heaC C c (nI r)) (by rw [t0]; exact n21), asC_z (C := C) (by rw [z.2.1]; exact n21)] at s1
      rw [wkC_2 t0, wkC_2 z.2.1, heaC4, b1] at s2
      by_cases y : 3 ≤ bts (heaC (R, C, n, f, d, g).2.1 c (nI r) c 4)
      · rw [if_pos y] at hu ⊢
        have y : 3 ≤ bts (heaC C c (nI r) c 4) := y
        rw [heaC4, b1] at y
        have hnf : ∀ q b, q ≠ c → idlC (heaC C c (nI r)) c q b = C q b := fun q b hq => (idlC_ne hq).trans (heaC_ne hq)
        obtain ⟨v1, v2⟩ := sums_at hc hnf
        rw [asC_z (C := idlC (heaC C c (nI r)) c) (by rw [idlC_0]; exact n01)] at v1
        rw [wkC_0 idlC_0, wkC_2 z.2.1] at v2
        refine ⟨h1, Cok_at h2 hnf ⟨Or.inl idlC_0, ⟨0, by decide, idlC_4⟩, fun _ => idlC_4⟩ hu, ?_, ?_, h5⟩
        · show n + 4 * sum3 (asC (idlC (heaC C c (nI r)) c)) ≤ 77
          omega
        · show 13 * (d + 1) + sum3 (wkC (idlC (heaC C c (nI r)) c)) + mc f n ≤ k + 1
          omega
      · rw [if_neg y] at hu ⊢
        refine ⟨h1, Cok_at h2 hne ⟨Or.inr (Or.inr t0), ⟨b2, lb, heaC4.trans eb⟩, fun q => absurd (t0.symm.trans q) n20⟩ hu, ?_, ?_, h5⟩
        · show n + 4 * sum3 (asC (heaC C c (nI r))) ≤ 77
          omega
        · show 13 * d + sum3 (wkC (heaC C c (nI r))) + mc f n ≤ k + 1
          omega
    · rw [if_neg z] at hu ⊢
      exact same _ rfl hu
theorem inv_deliver {σ : St} {an u : Nat → Int32} {k : Nat} {p0 : Int32} (h : Inv σ an k) (hu : ∀ q, q < 3 → ¬ (dlS σ p0).2.1 q 0 = 0 → u q = (dlS σ p0).2.1 q 4) : Inv (dlS σ p0) u (k + 1) := by
  obtain ⟨R, C, n, f, d, g⟩ := σ
  obtain ⟨h1, h2, h3, h4, h5⟩ := h
  change okm f n at h1
  change Cok C an at h2
  change n + 4 * sum3 (asC C) ≤ 77 at h3
  change 13 * d + sum3 (wkC C) + mc f n ≤ k at h4
  change cnF R 5 ≤ 2 at h5
  by_cases q : okI p0 n
  · obtain ⟨i, hi, rfl⟩ := okI_of q (by omega)
    obtain ⟨⟨c, hc, ec⟩, ⟨r, hr, er⟩⟩ := h1 i hi
    rw [dlS_at hi (by omega) hc hr ec er] at hu ⊢
    have e := mc_drp (f := f) hi
    unfold pr at e
    refine inv_msg (an := an) (okm_drp h1) h2 (by omega) ?_ h5 hc hr hu
    omega
  · rw [show dlS (R, C, n, f, d, g) p0 = (R, C, n, f, d, g) from if_neg q] at hu ⊢
    exact ⟨h1, fun q hq => ⟨(h2 q hq).1, (h2 q hq).2.1, (h2 q hq).2.2.1, hu q hq⟩, h3, Nat.le_succ_of_le h4, h5⟩
