/-! .. its methods, one after the other; may; ahead -/
theorem Iv.any {S : Nat → Nat → Int32} {e : Nat → Prop} {st : rST} (h : Iv S (fun _ => False) st) : Iv S e st := fun z q => ⟨(h z q).1, fun h1 => ⟨fun h3 => Or.inl (((h z q).2 h1).1 h3 |>.elim id False.elim), ((h z q).2 h1).2⟩⟩
/-- what the act i of (x, q) asks for is in -/
def cq (S : Nat → Nat → Int32) (x q i : Nat) (st : rST) : Prop := (¬ evW S x q i = -1 → pS st (evW S x q i).toNatClampNeg) ∧ ((S 11 (aT x q i)).toNatClampNeg = 7 → mS st (4 * (S 11 (aT x q i + 1)).toNatClampNeg + (S 11 (aT x q i + 2)).toNatClampNeg))
theorem cq.le {S : Nat → Nat → Int32} {x q i : Nat} {st st2 : rST} (h : cq S x q i st) (hl : leS st st2) : cq S x q i st2 := ⟨fun w => hl.1 _ (h.1 w), fun w => hl.2.1 _ (h.2 w)⟩
theorem rfS1 {n x q i : Nat} {S : Nat → Nat → Int32} {st : rST} (hs : sI n S) (hx : x < n) (hq : q < 4) (hi : i < (S 10 (4 * x + q)).toNatClampNeg) (hL : LI n st) (hI : Iv S (fun _ => False) st) : LI n (rfB S x q i (rfA S x q i st)) ∧ leS st (rfB S x q i (rfA S x q i st)) ∧ Iv S (fun _ => False) (rfB S x q i (rfA S x q i st)) ∧ cq S x q i (rfB S x q i (rfA S x q i st)) ∧ ∀ P M, cl n S P M → cl4 n S P M → M (4 * x + q) → sbS P M st → sbS P M (rfB S x q i (rfA S x q i st)) := by
  have hn := hs.1
  have hok := sI_act hs hx hq hi
  have ka : LI n (rfA S x q i st) ∧ leS st (rfA S x q i st) ∧ Iv S (fun _ => False) (rfA S x q i st) ∧ (¬ evW S x q i = -1 → pS (rfA S x q i st) (evW S x q i).toNatClampNeg) ∧ ∀ P M, cl n S P M → cl4 n S P M → M (4 * x + q) → sbS P M st → sbS P M (rfA S x q i st) := by
    unfold rfA
    by_cases c : evW S x q i = -1
    · rw [if_pos c]
      exact ⟨hL, leS.rf, hI, fun h => absurd c h, fun _ _ _ _ _ h => h⟩
    · rw [if_neg c]
      have hz := (evW_z hok hn c).1
      obtain ⟨r1, r2, r3, r4, r5⟩ := rwL_S hs 12 (evW S x q i).toNatClampNeg st (by omega) hz hL hI.any
      exact ⟨r1, r2, r3, fun _ => r4, fun P M hc hc4 hM hb => r5 P M hc ((hc4 x q i hx hq hM hi).1 c) hb⟩
  obtain ⟨a1, a2, a3, a4, a5⟩ := ka
  generalize rfA S x q i st = st1 at a1 a2 a3 a4 a5 ⊢
  unfold rfB
  by_cases c : (S 11 (aT x q i)).toNatClampNeg = 7
  · rw [if_pos c]
    have hm := act_7m hs hx hq hi c
    obtain ⟨b1, b2, b3, b4⟩ := list_S hn a1 hm
    refine ⟨b1, a2.tr b2, fun z w => ?_, ⟨fun w => b2.1 _ (a4 w), fun _ => (b3 _).mpr (Or.inr rfl)⟩, fun P M hc hc4 hM hb => ?_⟩
    · obtain ⟨e1, e2⟩ := a3 z ((b4 z).mp w)
      exact ⟨b2.2.1 _ e1, fun h1 => ⟨fun h3 => Or.inl (((e2 h1).1 h3).elim (fun r => b2.1 _ r) False.elim), fun y r1 r2 r3 => b2.1 _ ((e2 h1).2 y r1 r2 r3)⟩⟩
    · have h1 := a5 P M hc hc4 hM hb
      refine ⟨fun z w => h1.1 z ((b4 z).mp w), fun m w => ?_⟩
      rcases (b3 m).mp w with w | w
      · exact h1.2 m w
      · rw [w]; exact (hc4 x q i hx hq hM hi).2 c
  · rw [if_neg c]
    exact ⟨a1, a2, a3, ⟨a4, fun h => absurd h c⟩, a5⟩
theorem rfL_S {n x q : Nat} {S : Nat → Nat → Int32} (hs : sI n S) (hx : x < n) (hq : q < 4) : ∀ (r i : Nat) (st : rST), i + r = (S 10 (4 * x + q)).toNatClampNeg → LI n st → Iv S (fun _ => False) st → LI n (rfL S x q r i st) ∧ leS st (rfL S x q r i st) ∧ Iv S (fun _ => False) (rfL S x q r i st) ∧ (∀ j, i ≤ j → j < (S 10 (4 * x + q)).toNatClampNeg → cq S x q j (rfL S x q r i st)) ∧ ∀ P M, cl n S P M → cl4 n S P M → M (4 * x + q) → sbS P M st → sbS P M (rfL S x q r i st) := by
  intro r
  induction r with
  | zero => intro i st hi hL hI; exact ⟨hL, leS.rf, hI, fun j h1 h2 => by omega, fun _ _ _ _ _ h => h⟩
  | succ r ih =>
    intro i st hi hL hI
    obtain ⟨a1, a2, a3, a4, a5⟩ := rfS1 hs hx hq (show i < (S 10 (4 * x + q)).toNatClampNeg by omega) hL hI
    obtain ⟨b1, b2, b3, b4, b5⟩ := ih (i + 1) _ (by omega) a1 a3
    rw [rfL]
    refine ⟨b1, a2.tr b2, b3, fun j h1 h2 => ?_, fun P M hc hc4 hM hb => b5 P M hc hc4 hM (a5 P M hc hc4 hM hb)⟩
    by_cases c : j = i
    · subst c; exact a4.le b2
    · exact b4 j (by omega) h2
def dn (S : Nat → Nat → Int32) (m : Nat) (st : rST) : Prop := ∀ i, i < (S 10 m).toNatClampNeg → cq S (m / 4) (m % 4) i st
theorem rmL2_S {n : Nat} {S : Nat → Nat → Int32} (hs : sI n S) : ∀ (r i : Nat) (st : rST), i + r = 48 → LI n st → Iv S (fun _ => False) st → (∀ j, j < i → j < rsz st → dn S (st.1 4 j).toNatClampNeg st) → LI n (rmL2 S r i st) ∧ leS st (rmL2 S r i st) ∧ Iv S (fun _ => False) (rmL2 S r i st) ∧ (∀ m, mS (rmL2 S r i st) m → dn S m (rmL2 S r i st)) ∧ ∀ P M, cl n S P M → cl4 n S P M → sbS P M st → sbS P M (rmL2 S r i st) := by
  have hn := hs.1
  have fin : ∀ st, LI n st → (∀ j, j < rsz st → dn S (st.1 4 j).toNatClampNeg st) → ∀ m, mS st m → dn S m st := by
    intro st hL hd m hm
    obtain ⟨-, sz, h1, h2, h3, h4, h5⟩ := hL
    obtain ⟨h48, j, hj, he⟩ := h5 m hm
    have hr : rsz st = sz := by obtain ⟨Y, L⟩ := st; exact rsz_eq h2 h1
    have := hd j (by omega)
    rw [he, nI_clamp (by omega)] at this
    exact this
  intro r
  induction r with
  | zero =>
    intro i st hi hL hI hd
    refine ⟨hL, leS.rf, hI, fin st hL (fun j hj => hd j ?_ hj), fun _ _ _ _ h => h⟩
    obtain ⟨-, sz, h1, h2, -⟩ := hL
    have hr : rsz st = sz := by obtain ⟨Y, L⟩ := st; exact rsz_eq h2 h1
    omega
  | succ r ih =>
    intro i st hi hL hI hd
    rw [rmL2]
    by_cases c : rsz st ≤ i
    · rw [if_pos c]
      exact ⟨hL, leS.rf, hI, fin st hL (fun j hj => hd j (by omega) hj), fun _ _ _ _ h => h⟩
    · rw [if_neg c]
      obtain ⟨hy, sz, h1, h2, h3, h4, h5⟩ := id hL
      have hr : rsz st = sz := by obtain ⟨Y, L⟩ := st; exact rsz_eq h2 h1
      obtain ⟨mm, hmm, he, hin⟩ := h3 i (by omega)
      have hec : (st.1 4 i).toNatClampNeg = mm := by rw [he, nI_clamp (by omega)]
      have hk := k4 mm
      obtain ⟨a1, a2, a3, a4, a5⟩ := rfL_S hs (show mm / 4 < n by omega) (show mm % 4 < 4 by omega) (S 10 mm).toNatClampNeg 0 st (by rw [← hk]; omega) hL hI
      rw [← hk] at a4 a5
      have ef : rfo S (st.1 4 i).toNatClampNeg st = rfL S (mm / 4) (mm % 4) (S 10 mm).toNatClampNeg 0 st := by rw [hec]; rfl
      rw [ef]
      generalize rfL S (mm / 4) (mm % 4) (S 10 mm).toNatClampNeg 0 st = st1 at a1 a2 a3 a4 a5 ⊢
      obtain ⟨-, sz1, g1, g2, g3, g4, g5⟩ := id a1
      have hr1 : rsz st1 = sz1 := by obtain ⟨Y, L⟩ := st1; exact rsz_eq g2 g1
      -- what is behind sz in the list is in
      obtain ⟨b1, b2, b3, b4, b5⟩ := ih (i + 1) st1 (by omega) a1 a3 (fun j hj hj2 => by
        by_cases e : j = i
        · subst e
          rw [a2.2.2.2.1 j (by omega), hec]
          exact fun k hk => a4 k (by omega) hk
        · rw [a2.2.2.2.1 j (by omega)]
          exact fun k hk => (hd j (by omega) (by omega) k hk).le a2)
      exact ⟨b1, a2.tr b2, b3, b4, fun P M hc hc4 hb => b5 P M hc hc4 (a5 P M hc hc4 (hb.2 mm hin) hb)⟩
theorem cnt_0 {P : Nat → Prop} (h : ∀ i, ¬ P i) : ∀ k, cnt P k = 0 := by
  intro k
  induction k with
  | zero => rfl
  | succ k ih => rw [cnt_n (h k), ih]
theorem cl0_S {n : Nat} {S : Nat → Nat → Int32} {st : rST} (hy : yI n st.1) : LI n (rcl0 st) ∧ Iv S (fun _ => False) (rcl0 st) ∧ (∀ P M, sbS P M (rcl0 st)) ∧ ∀ k, k = 0 ∨ k = 1 → (rcl0 st).1 k = st.1 k := by
  have hm : ∀ m, ¬ mS (rcl0 st) m := fun m h => by
    have : lt 0 m = true := h
    rw [l_0] at this
    exact Bool.noConfusion this
  have hp : ∀ z, ¬ pS (rcl0 st) z := fun z h => by
    have h : bt (m2 (m2 st.1 2 0 (nI 0)) 3 0 (nI 0) 2 0) z = true := h
    rw [m2_nk (by decide), m2_at, show bt (nI 0) z = false from b_0 z] at h
    exact Bool.noConfusion h
  refine ⟨⟨fun i => ?_, 0, by omega, show m2 (m2 st.1 2 0 (nI 0)) 3 0 (nI 0) 3 0 = _ from m2_at, fun i hi => absurd hi (by omega), cnt_0 hm 48, fun m h => absurd h (hm m)⟩, fun z h => absurd h (hp z), fun P M => ⟨fun z h => absurd h (hp z), fun m h => absurd h (hm m)⟩, fun k hk => ?_⟩
  · have e : (rcl0 st).1 4 i = st.1 4 i := by
      show m2 (m2 st.1 2 0 (nI 0)) 3 0 (nI 0) 4 i = _
      rw [m2_nk (by decide), m2_nk (by decide)]
    rw [e]
    exact hy i
  · show m2 (m2 st.1 2 0 (nI 0)) 3 0 (nI 0) k = _
    rw [m2_ne (by omega), m2_ne (by omega)]
/-- the class's may: the least closed set -/
theorem may_cls {n x q : Nat} {S : Nat → Nat → Int32} {st : rST} (hs : sI n S) (hx : x < n) (hq : q < 4) (hy : yI n st.1) : cl n S (pS (rOf S x q st)) (mS (rOf S x q st)) ∧ cl4 n S (pS (rOf S x q st)) (mS (rOf S x q st)) ∧ pS (rOf S x q st) x ∧ mS (rOf S x q st) (4 * x + q) ∧ (∀ P M, cl n S P M → cl4 n S P M → P x → M (4 * x + q) → ∀ z, pS (rOf S x q st) z → P z) ∧ yI n (rOf S x q st).1 ∧ ∀ k, k = 0 ∨ k = 1 → (rOf S x q st).1 k = st.1 k := by
  have hn := hs.1
  unfold rOf
  obtain ⟨o1, o2, o3, o4⟩ := cl0_S (S := S) hy
  obtain ⟨a1, a2, a3, a4, a5⟩ := rwL_S hs 12 x (rcl0 st) (by omega) hx o1 o2.any
  generalize rwL S 12 x (rcl0 st) = st1 at a1 a2 a3 a4 a5 ⊢
  obtain ⟨b1, b2, b3, b4⟩ := list_S hn a1 (show 4 * x + q < 4 * n by omega)
  have hI : Iv S (fun _ => False) (rl_list (4 * x + q) st1) := fun z w => by
    obtain ⟨e1, e2⟩ := a3 z ((b4 z).mp w)
    exact ⟨b2.2.1 _ e1, fun h1 => ⟨fun h3 => Or.inl (((e2 h1).1 h3).elim (fun r => b2.1 _ r) False.elim), fun y r1 r2 r3 => b2.1 _ ((e2 h1).2 y r1 r2 r3)⟩⟩
  have hsb : ∀ P M, cl n S P M → P x → M (4 * x + q) → sbS P M (rl_list (4 * x + q) st1) := fun P M hc hP hM => by
    have h1 := a5 P M hc hP (o3 P M)
    refine ⟨fun z w => h1.1 z ((b4 z).mp w), fun m w => ?_⟩
    rcases (b3 m).mp w with w | w
    · exact h1.2 m w
    · rw [w]; exact hM
  have hmx : mS (rl_list (4 * x + q) st1) (4 * x + q) := (b3 _).mpr (Or.inr rfl)
  generalize rl_list (4 * x + q) st1 = st2 at b1 b2 hI hsb hmx ⊢
  obtain ⟨c1, c2, c3, c4, c5⟩ := rmL2_S hs 48 0 st2 rfl b1 hI (fun j hj => absurd hj (by omega))
  generalize rmL2 S 48 0 st2 = st3 at c1 c2 c3 c4 c5 ⊢
  have hfu := c5 _ _ (cl_all hs) (cl4_all hs) (hsb _ _ (cl_all hs) hx (by show _ < 4 * n; omega))
  refine ⟨⟨hfu.1, hfu.2, fun z w => (c3 z w).1, fun z w h1 h3 => (((c3 z w).2 h1).1 h3).elim id False.elim, fun z y w h1 r1 r2 r3 => ((c3 z w).2 h1).2 y r1 r2 r3⟩, fun y p i hy2 hp hm hi => ?_, c2.1 x (b2.1 x a4), c2.2.1 _ hmx, fun P M hc hc4 hP hM => (c5 P M hc hc4 (hsb P M hc hP hM)).1, c1.1, fun k hk => (c2.2.2.2.2 k hk).trans ((b2.2.2.2.2 k hk).trans ((a2.2.2.2.2 k hk).trans (o4 k hk)))⟩
  have h := c4 _ hm i hi
  rw [show (4 * y + p) / 4 = y by omega, show (4 * y + p) % 4 = p by omega] at h
  exact h
theorem may_eq {n x q : Nat} {S X : Nat → Nat → Int32} {st : rST} (hs : sI n S) (hx : x < n) (hq : q < 4) (hy : yI n st.1) : mt_t S n (my0 X x q) 60 32 0 = (rOf S x q st).1 2 0 := by
  obtain ⟨a1, a2, a3, a4⟩ := may_ref (X := X) hs hx hq
  obtain ⟨b1, b2, b3, b4, b5, -⟩ := may_cls (st := st) hs hx hq hy
  refine b_ext (fun i _ => ?_)
  rw [Bool.eq_iff_iff]
  exact ⟨a4 _ _ b1 b2 b3 b4 i, b5 _ _ a1.1 a1.2 a2 a3 i⟩
