/-! WHAT THE CLASS'S MACHINE DOES, as a function with a fuel -/
abbrev cST : Type := (Nat → Nat → Int32) × (Nat → Nat → Int32)
abbrev cEV : Type := Nat → Nat → Nat → Nat → Nat → cST → Int32 × cST
def cev (S : Nat → Nat → Int32) : Nat := (S 13 0).toNatClampNeg
/-- the faces of x from i on, r of them -/
def lkL (E : cEV) (x d lv : Nat) : Nat → Nat → Int32 → cST → Int32 × cST
  | 0, _, w, st => (w, st)
  | r + 1, i, w, st => if ¬ w = -1 then (w, st) else if lv = 0 then (w, st) else
    if ¬ (E 2 (st.1 5 (3 * x + i)).toNatClampNeg 0 (lv - 1) d st).1 = -1 then lkL E x d lv r (i + 1) (E 2 (st.1 5 (3 * x + i)).toNatClampNeg 0 (lv - 1) d st).1 (E 2 (st.1 5 (3 * x + i)).toNatClampNeg 0 (lv - 1) d st).2
    else if st.1 2 (st.1 5 (3 * x + i)).toNatClampNeg = 0 then lkL E x d lv r (i + 1) (E 2 (st.1 5 (3 * x + i)).toNatClampNeg 0 (lv - 1) d st).1 (E 2 (st.1 5 (3 * x + i)).toNatClampNeg 0 (lv - 1) d st).2
    else lkL E x d lv r (i + 1) (E 0 (st.1 5 (3 * x + i)).toNatClampNeg 0 0 d (E 2 (st.1 5 (3 * x + i)).toNatClampNeg 0 (lv - 1) d st).2).1 (E 0 (st.1 5 (3 * x + i)).toNatClampNeg 0 0 d (E 2 (st.1 5 (3 * x + i)).toNatClampNeg 0 (lv - 1) d st).2).2
/-- the acts of a method from i on, r of them; those below nx are passed over -/
def wkL (E : cEV) (x q d : Nat) : Nat → Nat → Nat → cST → Int32 × cST
  | 0, _, _, st => (-1, st)
  | r + 1, i, nx, st => if i < nx then wkL E x q d r (i + 1) nx st else
    if (E 4 x q i (d + 1) st).1 = -1 then wkL E x q d r (i + 1) nx (E 4 x q i (d + 1) st).2
    else if eoc (st.1 11) (4 * x + q) i (E 4 x q i (d + 1) st).1 i = -1 then E 4 x q i (d + 1) st
    else wkL E x q d r (i + 1) ((eoc (st.1 11) (4 * x + q) i (E 4 x q i (d + 1) st).1 i).toNatClampNeg + 1) (E 4 x q i (d + 1) st).2
/-- the end of a start that answered r -/
def wtE (x : Nat) (r : Int32 × cST) : Int32 × cST :=
  if r.1 = -1 then (-1, (sp_tell (m2 r.2.1 12 x (nI 2)) (cev r.2.1) (nI 1) (nI x), r.2.2))
  else if r.1 < nI 7 then (nI 7, (sp_ar (sp_tell (m2 r.2.1 12 x (nI 3)) (cev r.2.1) (nI 2) (nI x)) (nI 7), m2 r.2.2 1 0 r.1))
  else (r.1, (sp_tell (m2 r.2.1 12 x (nI 3)) (cev r.2.1) (nI 2) (nI x), r.2.2))
def wt0 (S : Nat → Nat → Int32) (x : Nat) : Nat → Nat → Int32 := sp_tell (m2 S 12 x (nI 1)) (cev S) (nI 0) (nI x)
def stP (E : cEV) (x d : Nat) (st : cST) : Int32 × cST := if st.1 3 x = -1 then (-1, st) else E 0 (st.1 3 x).toNatClampNeg 0 0 d st
def stL (E : cEV) (x d : Nat) (r : Int32 × cST) : Int32 × cST := if ¬ r.1 = -1 then r else if r.2.1 1 x = 0 then E 2 x 0 12 d r.2 else r
def stW (E : cEV) (x d : Nat) (r : Int32 × cST) : Int32 × cST := if ¬ r.1 = -1 then r else if d < 8 then E 3 x 0 0 d r.2 else (nI 9, (sp_ar r.2.1 (nI 9), r.2.2))
def aT (x q i : Nat) : Nat := 40 * (4 * x + q) + 4 * i
def evW (S : Nat → Nat → Int32) (x q i : Nat) : Int32 := rf_wants S (S 11 (aT x q i)).toNatClampNeg (S 11 (aT x q i + 1)) (S 11 (aT x q i + 2)) (S 11 (aT x q i + 3))
def bgS (S : Nat → Nat → Int32) : Nat → Nat → Int32 := m2 S 17 0 (S 17 0 + nI 1)
def bgN (E : cEV) (x q i d : Nat) (r : Int32 × cST) : Int32 × cST := if ¬ r.1 = -1 then r else E 5 x q i d r.2
def evF (E : cEV) (tag x q i d : Nat) (st : cST) : Int32 × cST := match tag with
  | 0 => if st.1 12 x = nI 3 then (nI 8, (sp_ar st.1 (nI 8), st.2)) else if st.1 12 x = 0 then wtE x (E 1 x 0 0 d (wt0 st.1 x, st.2)) else (-1, st)
  | 1 => stW E x d (stL E x d (stP E x d st))
  | 2 => lkL E x d i (st.1 4 x).toNatClampNeg 0 (-1) st
  | 3 => wkL E x q d (st.1 10 (4 * x + q)).toNatClampNeg 0 0 st
  | 4 => if nI 80 ≤ st.1 17 0 then (nI 10, st) else bgN E x q i d (if evW st.1 x q i = -1 then (-1, (bgS st.1, st.2)) else E 0 (evW st.1 x q i).toNatClampNeg 0 0 d (bgS st.1, st.2))
  | 5 => if (st.1 11 (aT x q i)).toNatClampNeg = 7 then E 6 (st.1 11 (aT x q i + 1)).toNatClampNeg (st.1 11 (aT x q i + 2)).toNatClampNeg 0 d st
    else if (st.1 11 (aT x q i)).toNatClampNeg = 11 then (-1, st)
    else (sp_doR st.1 x (st.1 11 (aT x q i)).toNatClampNeg (st.1 11 (aT x q i + 1)) (st.1 11 (aT x q i + 2)) (st.1 11 (aT x q i + 3)), (sp_doS st.1 (cev st.1) x (st.1 11 (aT x q i)).toNatClampNeg (st.1 11 (aT x q i + 1)) (st.1 11 (aT x q i + 2)) (st.1 11 (aT x q i + 3)), st.2))
  | _ => if d < 8 then E 3 x q 0 d (sp_tell st.1 (cev st.1) (nI 4) (nI (10 * x + q)), st.2) else (nI 9, (sp_ar st.1 (nI 9), st.2))
def ev : Nat → cEV
  | 0 => fun _ _ _ _ _ st => (-1, st)
  | k + 1 => evF (ev k)
/-- how many are NOT -/
def cN (S : Nat → Nat → Int32) : Nat → Nat
  | 0 => 0
  | x + 1 => cN S x + (if S 12 x = 0 then 1 else 0)
theorem cN_le {S S2 : Nat → Nat → Int32} {n : Nat} (h : ∀ x, x < n → S2 12 x = 0 → S 12 x = 0) : cN S2 n ≤ cN S n := by
  induction n with
  | zero => exact Nat.le_refl _
  | succ n ih =>
    have q := ih (fun x hx => h x (by omega))
    rw [cN, cN]
    by_cases h2 : S2 12 n = 0
    · rw [if_pos h2, if_pos (h n (by omega) h2)]
      omega
    · rw [if_neg h2]
      omega
theorem cN_eq {S S2 : Nat → Nat → Int32} {n : Nat} (h : ∀ x, x < n → S2 12 x = S 12 x) : cN S2 n = cN S n := by
  induction n with
  | zero => rfl
  | succ n ih => rw [cN, cN, ih (fun x hx => h x (by omega)), h n (by omega)]
theorem cN_dec {S : Nat → Nat → Int32} {n x : Nat} {v : Int32} (hx : x < n) (h : S 12 x = 0) (hv : ¬ v = 0) : cN (m2 S 12 x v) n + 1 = cN S n := by
  induction n with
  | zero => omega
  | succ n ih =>
    rw [cN, cN]
    by_cases hn : x = n
    · subst hn
      rw [m2_at, if_neg hv, if_pos h, cN_eq (S := S) (fun y hy => m2_o (by omega))]
    · rw [m2_o (Ne.symm hn), ← ih (by omega)]
      omega
theorem cN_n (S : Nat → Nat → Int32) (n : Nat) : cN S n ≤ n := by
  induction n with
  | zero => exact Nat.le_refl _
  | succ n ih =>
    rw [cN]
    split <;> omega
/-- what stays in a run: the keys 0 .. 5, 7, 10, 11 -/
def sta (S S2 : Nat → Nat → Int32) : Prop := ∀ k, (k ≤ 5 ∨ k = 7 ∨ k = 10 ∨ k = 11) → S2 k = S k
def mon (n : Nat) (S S2 : Nat → Nat → Int32) : Prop := ∀ x, x < n → S2 12 x = 0 → S 12 x = 0
/-- a thrown number, or none -/
def thr (w : Int32) : Prop := w = -1 ∨ ∃ t, t ≤ 10 ∧ w = nI t
def dI (n : Nat) (S : Nat → Nat → Int32) : Prop := (∃ e, e ≤ 60 ∧ S 13 0 = nI e) ∧ (∃ k, k ≤ 80 ∧ S 17 0 = nI k) ∧ (∀ x, x < 12 → ∃ r, r ≤ 21 ∧ S 8 x = nI r) ∧ (∀ x, x < n → ∃ t, t ≤ 3 ∧ S 12 x = nI t)
/-- an act that may stand in a method of x -/
def okAct (S : Nat → Nat → Int32) (n p : Nat) : Prop := ∃ so, so ≤ 12 ∧ S 11 p = nI so ∧ ¬ sp_areIn so (S 11 (p + 1)) (S 11 (p + 2)) (S 11 (p + 3)) = 0 ∧ (1 ≤ so ∧ so ≤ 3 → ∃ z, z < n ∧ S 11 (p + 2) = nI z) ∧ (so = 7 ∨ so = 8 → ∃ z, z < n ∧ S 11 (p + 1) = nI z)
/-- the things, as they may be -/
def sI (n : Nat) (S : Nat → Nat → Int32) : Prop := n ≤ 12 ∧ S 0 0 = nI n ∧ (∀ x, x < 12 → ∃ fc, fc ≤ 3 ∧ S 4 x = nI fc) ∧ (∀ x i, x < n → i < (S 4 x).toNatClampNeg → ∃ y, y < x ∧ S 5 (3 * x + i) = nI y ∧ ¬ S 1 y = 0) ∧ (∀ x, x < n → S 3 x = -1 ∨ ∃ y, y < x ∧ S 3 x = nI y) ∧ (∀ x, x < n → ¬ S 1 x = 0 → S 3 x = -1) ∧ (∀ mm, mm < 48 → ∃ ac, ac ≤ 10 ∧ S 10 mm = nI ac) ∧ (∀ mm i, mm < 4 * n → i < (S 10 mm).toNatClampNeg → okAct S n (40 * mm + 4 * i))
theorem sta.rf {S : Nat → Nat → Int32} : sta S S := fun _ _ => rfl
theorem sta.tr {S S2 S3 : Nat → Nat → Int32} (h1 : sta S S2) (h2 : sta S2 S3) : sta S S3 := fun k h => (h2 k h).trans (h1 k h)
theorem mon.rf {n : Nat} {S : Nat → Nat → Int32} : mon n S S := fun _ _ h => h
theorem mon.tr {n : Nat} {S S2 S3 : Nat → Nat → Int32} (h1 : mon n S S2) (h2 : mon n S2 S3) : mon n S S3 := fun x hx h => h1 x hx (h2 x hx h)
theorem sI.to {n : Nat} {S S2 : Nat → Nat → Int32} (h : sI n S) (hs : sta S S2) : sI n S2 := by
  have e0 := hs 0 (by omega); have e1 := hs 1 (by omega); have e3 := hs 3 (by omega); have e4 := hs 4 (by omega); have e5 := hs 5 (by omega); have e10 := hs 10 (by omega); have e11 := hs 11 (by omega)
  unfold sI okAct at h ⊢
  rw [e0, e1, e3, e4, e5, e10, e11]
  exact h
