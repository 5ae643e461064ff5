/-! THE CLASS: its picture. n things; S as the reference's; Y: 0 ended, 1 startCause, 2 wanted, 3 how many methods are listed, 4 which; L: listed -/
abbrev nk (x j : Nat) : Nat := 8 + 60 * x + j
def clip (n : Nat) (f : Nat → Int32) : Nat → Int32 := fun i => if i < n then f i else 0
abbrev qr (f : Nat → Option Nat) : (Nat → Int32) ⊕ (Nat → Int64) ⊕ (Nat → UInt32) ⊕ (Nat → UInt64) ⊕ (Nat → Option Nat) := .inr (.inr (.inr (.inr f)))
/-- where the acts of a TRY at i end: the table of those ahead of it, and the scan -/
def lgC (a : Nat → Int32) (mm : Nat) (t : Nat → Nat) (i : Nat) : Nat → Nat
  | 0 => i + (a (40 * mm + 4 * i + 1)).toNatClampNeg
  | j + 1 => if a (40 * mm + 4 * j) = nI 11 ∧ i ≤ t j then Nat.min (lgC a mm t i j) (t j) else lgC a mm t i j
def lgT (a : Nat → Int32) (mm : Nat) : Nat → Nat → Nat
  | 0 => fun _ => 0
  | i + 1 => fun j => if j = i then lgC a mm (lgT a mm i) i i else lgT a mm i j
def lgN (a : Nat → Int32) (mm i : Nat) : Nat := lgT a mm (i + 1) i
def lgI (a : Nat → Int32) (mm i : Nat) : Int32 := if a (40 * mm + 4 * i) = nI 11 then nI (lgN a mm i) else -1
/-- the one that an act names, or its own -/
def oth (a : Nat → Int32) (x p : Nat) : Nat := if 1 ≤ (a p).toNatClampNeg ∧ (a p).toNatClampNeg ≤ 3 then (a (p + 2)).toNatClampNeg else if (a p).toNatClampNeg = 7 ∨ (a p).toNatClampNeg = 8 then (a (p + 1)).toNatClampNeg else x
def pref (adr : Nat → Nat) (S : Nat → Nat → Int32) (x : Nat) : Option Nat := if S 3 x = -1 then none else some (adr (nk (S 3 x).toNatClampNeg 0))
def kfs (adr : Nat → Nat) (S : Nat → Nat → Int32) (x : Nat) : List Value := [.int (nI x), .int (S 1 x), .int (S 2 x), va_rf (pref adr S x), .ref (adr (nk x 1)), .int (S 4 x), .ref (adr (nk x 2)), .ref (adr (nk x 3)), .ref (adr (nk x 4)), .int (S 8 x - nI 1), .ref (adr (nk x 5)), .int (S 12 x)]
def mfs (adr : Nat → Nat) (S : Nat → Nat → Int32) (x q : Nat) : List Value := [.int (nI (4 * x + q)), .ref (adr (nk x (10 + q))), .int (S 10 (4 * x + q))]
def afs (adr : Nat → Nat) (S : Nat → Nat → Int32) (x q i : Nat) : List Value := [.int (S 11 (40 * (4 * x + q) + 4 * i)), .ref (adr (nk (oth (S 11) x (40 * (4 * x + q) + 4 * i)) 0)), .int (S 11 (40 * (4 * x + q) + 4 * i + 1)), .int (S 11 (40 * (4 * x + q) + 4 * i + 2)), .int (S 11 (40 * (4 * x + q) + 4 * i + 3)), .int (lgI (S 11) (4 * x + q) i)]
def fcR (adr : Nat → Nat) (S : Nat → Nat → Int32) (x : Nat) : Nat → Option Nat := fun i => if i < (S 4 x).toNatClampNeg then some (adr (nk (S 5 (3 * x + i)).toNatClampNeg 0)) else none
def mtR (adr : Nat → Nat) (x : Nat) : Nat → Option Nat := fun i => if i < 4 then some (adr (nk x (6 + i))) else none
def acR (adr : Nat → Nat) (S : Nat → Nat → Int32) (x q : Nat) : Nat → Option Nat := fun i => if i < (S 10 (4 * x + q)).toNatClampNeg then some (adr (nk x (14 + 10 * q + i))) else none
def kdR (adr : Nat → Nat) (n : Nat) : Nat → Option Nat := fun i => if i < n then some (adr (nk i 0)) else none
def rmR (adr : Nat → Nat) (Y : Nat → Nat → Int32) : Nat → Option Nat := fun i => if Y 4 i = -1 then none else some (adr (nk ((Y 4 i).toNatClampNeg / 4) (6 + (Y 4 i).toNatClampNeg % 4)))
def kcel (G : gw_G) (adr : Nat → Nat) (S : Nat → Nat → Int32) (x j : Nat) : Option va_E :=
  if j = 0 then some (.inr (2, kfs adr S x)) else if j = 1 then some (.inl (G.2 3, 3, qr (fcR adr S x))) else if j = 2 then some (.inl (G.2 0, 4, .inl (clip 4 (fun i => S 6 (4 * x + i))))) else if j = 3 then some (.inl (G.2 1, 4, .inl (clip 4 (fun i => S 7 (4 * x + i)))))
  else if j = 4 then some (.inl (G.2 0, 20, .inl (clip 20 (fun i => S 9 (20 * x + i))))) else if j = 5 then some (.inl (G.2 4, 4, qr (mtR adr x))) else if j < 10 then some (.inr (4, mfs adr S x (j - 6))) else if j < 14 then some (.inl (G.2 2, 10, qr (acR adr S x (j - 10))))
  else if j < 54 ∧ (j - 14) % 10 < (S 10 (4 * x + (j - 14) / 10)).toNatClampNeg then some (.inr (0, afs adr S x ((j - 14) / 10) ((j - 14) % 10))) else none
def jfs (adr : Nat → Nat) (S Y : Nat → Nat → Int32) : List Value := [.ref (adr 4), .ref (adr 5), .int (S 13 0), .int (S 16 0), .int (S 17 0), .int (S 18 0), .int (Y 0 0), .int (Y 1 0)]
def rfl5 (adr : Nat → Nat) (Y : Nat → Nat → Int32) (L : Int64) : List Value := [.int (Y 2 0), .long L, .ref (adr 7), .int (Y 3 0)]
def ofs (adr : Nat → Nat) (S : Nat → Nat → Int32) : List Value := [.ref (adr 1), .int (S 0 0), .ref (adr 2), .ref (adr 6)]
def ccel (G : gw_G) (adr : Nat → Nat) (n : Nat) (S Y : Nat → Nat → Int32) (L : Int64) (a : Nat) : Option va_E := match a with
  | 0 => some (.inr (6, ofs adr S))
  | 1 => some (.inl (G.2 3, 12, qr (kdR adr n)))
  | 2 => some (.inr (3, [.ref (adr 3)]))
  | 3 => some (.inr (1, jfs adr S Y))
  | 4 => some (.inl (G.2 0, 60, .inl (S 14)))
  | 5 => some (.inl (G.2 0, 60, .inl (S 15)))
  | 6 => some (.inr (5, rfl5 adr Y L))
  | 7 => some (.inl (G.2 4, 48, qr (rmR adr Y)))
  | b + 8 => if b / 60 < n then kcel G adr S (b / 60) (b % 60) else none
abbrev cB (G : gw_G) (A : Nat → Prop) (adr : Nat → Nat) (n : Nat) (S Y : Nat → Nat → Int32) (L : Int64) (H0 H : Heap) (locs : List Loc) : Prop := gw_B G A adr (ccel G adr n S Y L) H0 H locs
theorem ccel_k {G : gw_G} {adr : Nat → Nat} {n : Nat} {S Y : Nat → Nat → Int32} {L : Int64} {x j : Nat} (hx : x < n) (hj : j < 60) : ccel G adr n S Y L (nk x j) = kcel G adr S x j := by
  have e : nk x j = (60 * x + j) + 8 := by show 8 + 60 * x + j = _; omega
  rw [e]
  show (if (60 * x + j) / 60 < n then kcel G adr S ((60 * x + j) / 60) ((60 * x + j) % 60) else none) = _
  rw [show (60 * x + j) / 60 = x by omega, show (60 * x + j) % 60 = j by omega, if_pos hx]
/-- a write that one cell of one thing shows -/
theorem ccel_w {G : gw_G} {adr : Nat → Nat} {n : Nat} {S S2 Y : Nat → Nat → Int32} {L : Int64} {x j0 : Nat} {e : va_E} (hx : x < n) (hj : j0 < 60) (he : kcel G adr S2 x j0 = some e) (h0 : S2 0 = S 0) (h13 : ∀ k, 13 ≤ k → S2 k = S k) (ho : ∀ x' j, x' < n → ¬ (x' = x ∧ j = j0) → kcel G adr S2 x' j = kcel G adr S x' j) : va_up (ccel G adr n S Y L) (nk x j0) (some e) = ccel G adr n S2 Y L := by
  funext a
  by_cases ha : a = nk x j0
  · subst ha
    rw [ccel_k hx hj, he]
    simp [va_up]
  · simp only [va_up, if_neg ha]
    match a, ha with
    | 0, _ => simp only [ccel, ofs, h0]
    | 1, _ => rfl
    | 2, _ => rfl
    | 3, _ => simp only [ccel, jfs, h13 13 (by decide), h13 16 (by decide), h13 17 (by decide), h13 18 (by decide)]
    | 4, _ => simp only [ccel, h13 14 (by decide)]
    | 5, _ => simp only [ccel, h13 15 (by decide)]
    | 6, _ => rfl
    | 7, _ => rfl
    | b + 8, ha =>
      simp only [ccel]
      by_cases hb : b / 60 < n
      · rw [if_pos hb, if_pos hb, ho (b / 60) (b % 60) hb (fun q => ha (by obtain ⟨q1, q2⟩ := q; show b + 8 = 8 + 60 * x + j0; omega))]
      · rw [if_neg hb, if_neg hb]
theorem kcel_eq {G : gw_G} {adr : Nat → Nat} {S S2 : Nat → Nat → Int32} {x j : Nat} (h1 : S2 1 x = S 1 x) (h2 : S2 2 x = S 2 x) (h3 : S2 3 x = S 3 x) (h4 : S2 4 x = S 4 x) (h5 : S2 5 = S 5) (h6 : j = 2 → clip 4 (fun i => S2 6 (4 * x + i)) = clip 4 (fun i => S 6 (4 * x + i))) (h7 : j = 3 → clip 4 (fun i => S2 7 (4 * x + i)) = clip 4 (fun i => S 7 (4 * x + i))) (h8 : j = 0 → S2 8 x = S 8 x) (h9 : j = 4 → clip 20 (fun i => S2 9 (20 * x + i)) = clip 20 (fun i => S 9 (20 * x + i))) (h10 : S2 10 = S 10) (h11 : S2 11 = S 11) (h12 : j = 0 → S2 12 x = S 12 x) : kcel G adr S2 x j = kcel G adr S x j := by
  have ef : fcR adr S2 x = fcR adr S x := by funext i; simp only [fcR, h4, h5]
  have ea : ∀ q, acR adr S2 x q = acR adr S x q := fun q => by funext i; simp only [acR, h10]
  have em : ∀ q, mfs adr S2 x q = mfs adr S x q := fun q => by simp only [mfs, h10]
  have eb : ∀ q i, afs adr S2 x q i = afs adr S x q i := fun q i => by simp only [afs, h11]
  unfold kcel
  by_cases c0 : j = 0
  · rw [if_pos c0, if_pos c0]; simp only [kfs, pref, h1, h2, h3, h4, h8 c0, h12 c0]
  rw [if_neg c0, if_neg c0]
  by_cases c1 : j = 1
  · rw [if_pos c1, if_pos c1, ef]
  rw [if_neg c1, if_neg c1]
  by_cases c2 : j = 2
  · rw [if_pos c2, if_pos c2, h6 c2]
  rw [if_neg c2, if_neg c2]
  by_cases c3 : j = 3
  · rw [if_pos c3, if_pos c3, h7 c3]
  rw [if_neg c3, if_neg c3]
  by_cases c4 : j = 4
  · rw [if_pos c4, if_pos c4, h9 c4]
  rw [if_neg c4, if_neg c4, em, ea, h10, eb]
theorem clip_up {S : Nat → Nat → Int32} {w k x i : Nat} {v : Int32} (hi : i < w) : clip w (fun q => m2 S k (w * x + i) v k (w * x + q)) = va_up (clip w (fun q => S k (w * x + q))) i v := by
  funext q
  by_cases hq : q = i
  · subst hq
    simp [clip, va_up, m2_at, hi]
  · simp only [clip, va_up, if_neg hq, m2_o (show w * x + q ≠ w * x + i by omega)]
theorem clip_o {S : Nat → Nat → Int32} {w k x x2 i : Nat} {v : Int32} (hi : i < w) (hx : x2 ≠ x) : clip w (fun q => m2 S k (w * x + i) v k (w * x2 + q)) = clip w (fun q => S k (w * x2 + q)) := by
  funext q
  by_cases hq : q < w
  · have hne : w * x2 + q ≠ w * x + i := by
      intro e
      rcases Nat.lt_or_gt_of_ne hx with h | h
      · have := Nat.mul_le_mul_left w (show x2 + 1 ≤ x from h)
        rw [Nat.mul_add] at this
        omega
      · have := Nat.mul_le_mul_left w (show x + 1 ≤ x2 from h)
        rw [Nat.mul_add] at this
        omega
    simp only [clip, if_pos hq, m2_o hne]
  · simp only [clip, if_neg hq]
theorem kc_state {G : gw_G} {adr : Nat → Nat} {n : Nat} {S Y : Nat → Nat → Int32} {L : Int64} {x  : Nat} {v : Int32} (hx : x < n) : va_up (ccel G adr n S Y L) (nk x 0) (some (.inr (2, (kfs adr S x).set 11 (.int v)))) = ccel G adr n (m2 S 12 x v) Y L := by
  refine ccel_w hx (by decide) (by show (some (.inr (2, kfs adr (m2 S 12 x v) x)) : Option va_E) = _; simp only [kfs, pref, m2_at, m2_nk (show 1 ≠ 12 by decide), m2_nk (show 2 ≠ 12 by decide), m2_nk (show 3 ≠ 12 by decide), m2_nk (show 4 ≠ 12 by decide), m2_nk (show 8 ≠ 12 by decide), List.set]) (m2_ne (by decide)) (fun k hk => m2_ne (by omega)) (fun x2 j hx2 hne => ?_)
  exact kcel_eq (m2_nk (by decide)) (m2_nk (by decide)) (m2_nk (by decide)) (m2_nk (by decide)) (m2_ne (by decide)) (fun _ => by rw [m2_ne (show 6 ≠ 12 by decide)]) (fun _ => by rw [m2_ne (show 7 ≠ 12 by decide)]) (fun _ => m2_nk (by decide)) (fun _ => by rw [m2_ne (show 9 ≠ 12 by decide)]) (m2_ne (by decide)) (m2_ne (by decide)) (fun hj => m2_o (fun q => hne ⟨q, hj⟩))
theorem kc_items {G : gw_G} {adr : Nat → Nat} {n : Nat} {S Y : Nat → Nat → Int32} {L : Int64} {x  : Nat} {v : Int32} (hx : x < n) : va_up (ccel G adr n S Y L) (nk x 0) (some (.inr (2, (kfs adr S x).set 9 (.int (v - nI 1))))) = ccel G adr n (m2 S 8 x v) Y L := by
  refine ccel_w hx (by decide) (by show (some (.inr (2, kfs adr (m2 S 8 x v) x)) : Option va_E) = _; simp only [kfs, pref, m2_at, m2_nk (show 1 ≠ 8 by decide), m2_nk (show 2 ≠ 8 by decide), m2_nk (show 3 ≠ 8 by decide), m2_nk (show 4 ≠ 8 by decide), m2_nk (show 12 ≠ 8 by decide), List.set]) (m2_ne (by decide)) (fun k hk => m2_ne (by omega)) (fun x2 j hx2 hne => ?_)
  exact kcel_eq (m2_nk (by decide)) (m2_nk (by decide)) (m2_nk (by decide)) (m2_nk (by decide)) (m2_ne (by decide)) (fun _ => by rw [m2_ne (show 6 ≠ 8 by decide)]) (fun _ => by rw [m2_ne (show 7 ≠ 8 by decide)]) (fun hj => m2_o (fun q => hne ⟨q, hj⟩)) (fun _ => by rw [m2_ne (show 9 ≠ 8 by decide)]) (m2_ne (by decide)) (m2_ne (by decide)) (fun _ => m2_nk (by decide))
theorem kc_field {G : gw_G} {adr : Nat → Nat} {n : Nat} {S Y : Nat → Nat → Int32} {L : Int64} {x i : Nat} {v : Int32} (hx : x < n) (hi : i < 4) : va_up (ccel G adr n S Y L) (nk x 2) (some (.inl (G.2 0, 4, .inl (va_up (clip 4 (fun i => S 6 (4 * x + i))) i v)))) = ccel G adr n (m2 S 6 (4 * x + i) v) Y L := by
  refine ccel_w hx (by decide) (by show (some (.inl (G.2 0, 4, .inl (clip 4 (fun q => m2 S 6 (4 * x + i) v 6 (4 * x + q))))) : Option va_E) = _; rw [clip_up hi]) (m2_ne (by decide)) (fun k hk => m2_ne (by omega)) (fun x2 j hx2 hne => ?_)
  exact kcel_eq (m2_nk (by decide)) (m2_nk (by decide)) (m2_nk (by decide)) (m2_nk (by decide)) (m2_ne (by decide)) (fun hj => clip_o hi (fun q => hne ⟨q, hj⟩)) (fun _ => by rw [m2_ne (show 7 ≠ 6 by decide)]) (fun _ => m2_nk (by decide)) (fun _ => by rw [m2_ne (show 9 ≠ 6 by decide)]) (m2_ne (by decide)) (m2_ne (by decide)) (fun _ => m2_nk (by decide))
theorem kc_const {G : gw_G} {adr : Nat → Nat} {n : Nat} {S Y : Nat → Nat → Int32} {L : Int64} {x i : Nat} {v : Int32} (hx : x < n) (hi : i < 4) : va_up (ccel G adr n S Y L) (nk x 3) (some (.inl (G.2 1, 4, .inl (va_up (clip 4 (fun i => S 7 (4 * x + i))) i v)))) = ccel G adr n (m2 S 7 (4 * x + i) v) Y L := by
  refine ccel_w hx (by decide) (by show (some (.inl (G.2 1, 4, .inl (clip 4 (fun q => m2 S 7 (4 * x + i) v 7 (4 * x + q))))) : Option va_E) = _; rw [clip_up hi]) (m2_ne (by decide)) (fun k hk => m2_ne (by omega)) (fun x2 j hx2 hne => ?_)
  exact kcel_eq (m2_nk (by decide)) (m2_nk (by decide)) (m2_nk (by decide)) (m2_nk (by decide)) (m2_ne (by decide)) (fun _ => by rw [m2_ne (show 6 ≠ 7 by decide)]) (fun hj => clip_o hi (fun q => hne ⟨q, hj⟩)) (fun _ => m2_nk (by decide)) (fun _ => by rw [m2_ne (show 9 ≠ 7 by decide)]) (m2_ne (by decide)) (m2_ne (by decide)) (fun _ => m2_nk (by decide))
theorem kc_row {G : gw_G} {adr : Nat → Nat} {n : Nat} {S Y : Nat → Nat → Int32} {L : Int64} {x i : Nat} {v : Int32} (hx : x < n) (hi : i < 20) : va_up (ccel G adr n S Y L) (nk x 4) (some (.inl (G.2 0, 20, .inl (va_up (clip 20 (fun i => S 9 (20 * x + i))) i v)))) = ccel G adr n (m2 S 9 (20 * x + i) v) Y L := by
  refine ccel_w hx (by decide) (by show (some (.inl (G.2 0, 20, .inl (clip 20 (fun q => m2 S 9 (20 * x + i) v 9 (20 * x + q))))) : Option va_E) = _; rw [clip_up hi]) (m2_ne (by decide)) (fun k hk => m2_ne (by omega)) (fun x2 j hx2 hne => ?_)
  exact kcel_eq (m2_nk (by decide)) (m2_nk (by decide)) (m2_nk (by decide)) (m2_nk (by decide)) (m2_ne (by decide)) (fun _ => by rw [m2_ne (show 6 ≠ 9 by decide)]) (fun _ => by rw [m2_ne (show 7 ≠ 9 by decide)]) (fun _ => m2_nk (by decide)) (fun hj => clip_o hi (fun q => hne ⟨q, hj⟩)) (m2_ne (by decide)) (m2_ne (by decide)) (fun _ => m2_nk (by decide))
