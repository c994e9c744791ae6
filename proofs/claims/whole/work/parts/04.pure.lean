/-! WHAT A CALL DOES, as functions of the state -/
def snd6 (f : Nat → Int32) (n : Nat) (kd c r s t v : Int32) : Nat → Int32 := upd (upd (upd (upd (upd (upd f (n * 6 + 0) kd) (n * 6 + 1) c) (n * 6 + 2) r) (n * 6 + 3) s) (n * 6 + 4) t) (n * 6 + 5) v
def sndN (kd c s t v : Int32) (f : Nat → Int32) (n : Nat) : Nat → (Nat → Int32)
  | 0 => f
  | j + 1 => snd6 (sndN kd c s t v f n j) (n + j) kd c (nI j) s t v
def drp (f : Nat → Int32) (n i : Nat) : Nat → Int32 := va_cpy f f ((i + 1) * 6) (i * 6) (n * 6 - (i + 1) * 6)
def fin5 (g : Nat → Int32) (d : Nat) (c s w v t : Int32) : Nat → Int32 := upd (upd (upd (upd (upd g (d * 5 + 0) c) (d * 5 + 1) s) (d * 5 + 2) w) (d * 5 + 3) v) (d * 5 + 4) t
def bits (a : Nat) : Nat := a % 2 + a / 2 % 2 + a / 4 % 2 + a / 8 % 2 + a / 16 % 2
def bts (x : Int32) : Nat := bits x.toBitVec.toNat
abbrev aw (F : Nat → Int32) (ph : Int32) (r s : Int32) : Prop := F 1 = s ∧ F 0 = ph ∧ F 4 &&& (nI 1 <<< (r &&& 31)) = 0
def begC (C : Nat → Nat → Int32) (c : Nat) (w v : Int32) : Nat → Nat → Int32 := up2 (up2 (up2 (up2 (up2 (up2 (up2 C c 1 (C c 1 + nI 1)) c 2 w) c 3 v) c 5 (nI 0)) c 6 (nI 0)) c 0 (nI 1)) c 4 (nI 0)
def idlC (C : Nat → Nat → Int32) (c : Nat) : Nat → Nat → Int32 := up2 (up2 C c 0 (nI 0)) c 4 (nI 0)
def heaC (C : Nat → Nat → Int32) (c : Nat) (r : Int32) : Nat → Nat → Int32 := up2 C c 4 (C c 4 ||| (nI 1 <<< (r &&& 31)))
def telC (C : Nat → Nat → Int32) (c : Nat) (r t v : Int32) : Nat → Nat → Int32 := if t ≤ C c 5 then heaC C c r else up2 (up2 (heaC C c r) c 5 t) c 6 v
def numC (C : Nat → Nat → Int32) (c : Nat) : Int32 := nI 1 + (if C c 5 / nI 4 < C c 7 then C c 7 else C c 5 / nI 4)
def wriC (C : Nat → Nat → Int32) (c : Nat) : Nat → Nat → Int32 := up2 (up2 (up2 C c 7 (numC C c)) c 5 (nI 4 * numC C c + nI c)) c 6 (C c 3)
def stoC (C : Nat → Nat → Int32) (c : Nat) : Nat → Nat → Int32 := up2 (up2 (if C c 2 = 0 then C else wriC C c) c 0 (nI 2)) c 4 (nI 0)
def cnF (R : Nat → Nat → Int32) : Nat → Nat
  | 0 => 0
  | j + 1 => cnF R j + (if R j 2 = 0 then 0 else 1)
/-- begin: its answer and the state behind it -/
def bgX (C : Nat → Nat → Int32) (n : Nat) (p0 : Int32) : Int32 := if okI p0 3 then (if C p0.toNatClampNeg 0 = 0 then (if 60 < n then (-3) else C p0.toNatClampNeg 1 + nI 1) else (-2)) else (-1)
def bgS (σ : St) (p0 w v : Int32) : St := if okI p0 3 ∧ σ.2.1 p0.toNatClampNeg 0 = 0 ∧ ¬ 60 < σ.2.2.1 then (σ.1, begC σ.2.1 p0.toNatClampNeg w v, σ.2.2.1 + 5, sndN (nI 0) (nI p0.toNatClampNeg) (σ.2.1 p0.toNatClampNeg 1 + nI 1) (nI 0) (nI 0) σ.2.2.2.1 σ.2.2.1 5, σ.2.2.2.2.1, σ.2.2.2.2.2) else σ
def lvX (C : Nat → Nat → Int32) (p0 : Int32) : Int32 := if okI p0 3 ∧ ¬ C p0.toNatClampNeg 0 = 0 then 1 else 0
def lvS (σ : St) (p0 : Int32) : St := if okI p0 3 ∧ ¬ σ.2.1 p0.toNatClampNeg 0 = 0 then (σ.1, idlC σ.2.1 p0.toNatClampNeg, σ.2.2.1, σ.2.2.2.1, σ.2.2.2.2.1, σ.2.2.2.2.2) else σ
def stSto (σ : St) (c : Nat) : St := (σ.1, stoC σ.2.1 c, σ.2.2.1 + 5, sndN (nI 2) (nI c) (σ.2.1 c 1) (stoC σ.2.1 c c 5) (stoC σ.2.1 c c 6) σ.2.2.2.1 σ.2.2.1 5, σ.2.2.2.2.1, σ.2.2.2.2.2)
def stFin (σ : St) (c : Nat) : St := (σ.1, idlC σ.2.1 c, σ.2.2.1, σ.2.2.2.1, σ.2.2.2.2.1 + 1, fin5 σ.2.2.2.2.2 σ.2.2.2.2.1 (nI c) (σ.2.1 c 1) (if σ.2.1 c 2 = 0 then nI 0 else nI 1) (σ.2.1 c 6) (σ.2.1 c 5))
def stAsk (σ : St) (c r : Nat) (s : Int32) : St := if σ.1 r 2 = 0 then (σ.1, σ.2.1, σ.2.2.1 + 1, snd6 σ.2.2.2.1 σ.2.2.1 (nI 1) (nI c) (nI r) s (σ.1 r 0) (σ.1 r 1), σ.2.2.2.2.1, σ.2.2.2.2.2) else σ
def stStr (σ : St) (c r : Nat) (s t v : Int32) : St := if σ.1 r 2 = 0 then (if t ≤ σ.1 r 0 then σ.1 else up2 (up2 σ.1 r 0 t) r 1 v, σ.2.1, σ.2.2.1 + 1, snd6 σ.2.2.2.1 σ.2.2.1 (nI 3) (nI c) (nI r) s (nI 0) (nI 0), σ.2.2.2.2.1, σ.2.2.2.2.2) else σ
def stTel (σ : St) (c r : Nat) (s t v : Int32) : St := if aw (σ.2.1 c) (nI 1) (nI r) s then (if 3 ≤ bts (telC σ.2.1 c (nI r) t v c 4) then stSto (σ.1, telC σ.2.1 c (nI r) t v, σ.2.2.1, σ.2.2.2.1, σ.2.2.2.2.1, σ.2.2.2.2.2) c else (σ.1, telC σ.2.1 c (nI r) t v, σ.2.2.1, σ.2.2.2.1, σ.2.2.2.2.1, σ.2.2.2.2.2)) else σ
def stStd (σ : St) (c r : Nat) (s : Int32) : St := if aw (σ.2.1 c) (nI 2) (nI r) s then (if 3 ≤ bts (heaC σ.2.1 c (nI r) c 4) then stFin (σ.1, heaC σ.2.1 c (nI r), σ.2.2.1, σ.2.2.2.1, σ.2.2.2.2.1, σ.2.2.2.2.2) c else (σ.1, heaC σ.2.1 c (nI r), σ.2.2.1, σ.2.2.2.1, σ.2.2.2.2.1, σ.2.2.2.2.2)) else σ
theorem bits_le (a : Nat) : bits a ≤ 5 := by unfold bits; omega
theorem hear_bits : ∀ a, a < 32 → ∀ r, r < 5 → nI a ||| (nI 1 <<< (nI r &&& 31)) = nI (a ||| 2 ^ r) ∧ a ||| 2 ^ r < 32 := by decide +kernel
theorem bts_nI {a : Nat} (h : a < 32) : bts (nI a) = bits a := by unfold bts; rw [pk_tn (by omega)]
theorem bz {w : Int32} (h : w = 0 ∨ w = 1) : narrow .boolean (.int w) = .int w := by rcases h with rfl | rfl <;> rfl
theorem bf {w : Int32} (h : w = 0 ∨ w = 1) : fits .boolean (.int w) = true := by rcases h with rfl | rfl <;> rfl
theorem bn {w : Int32} (h : w = 0 ∨ w = 1) : vp_nar .boolean w = w := by rcases h with rfl | rfl <;> rfl
