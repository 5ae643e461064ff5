/-! AHEAD -/
def CHk (S : Nat → Nat → Int32) : Nat → Nat → Nat → Prop
  | 0, z, c => c = z
  | k + 1, z, c => ¬ S 3 z = -1 ∧ CHk S k (S 3 z).toNatClampNeg c
def CH (S : Nat → Nat → Int32) (z c : Nat) : Prop := ∃ k, CHk S k z c
theorem CH_un {S : Nat → Nat → Int32} {z c : Nat} (h : CH S z c) : c = z ∨ (¬ S 3 z = -1 ∧ CH S (S 3 z).toNatClampNeg c) := by
  obtain ⟨k, h⟩ := h
  cases k with
  | zero => exact Or.inl h
  | succ k => exact Or.inr ⟨h.1, k, h.2⟩
theorem CH_st {S : Nat → Nat → Int32} {z c : Nat} (h1 : ¬ S 3 z = -1) (h : CH S (S 3 z).toNatClampNeg c) : CH S z c := by
  obtain ⟨k, h⟩ := h
  exact ⟨k + 1, h1, h⟩
theorem CHk_end {S : Nat → Nat → Int32} : ∀ (k z c : Nat), CHk S k z c → ¬ S 3 c = -1 → CHk S (k + 1) z (S 3 c).toNatClampNeg := by
  intro k
  induction k with
  | zero => intro z c h h3; have h : c = z := h; subst h; exact ⟨h3, rfl⟩
  | succ k ih => intro z c h h3; exact ⟨h.1, ih _ c h.2 h3⟩
theorem CHk_le {n : Nat} {S : Nat → Nat → Int32} (hs : sI n S) : ∀ (k z c : Nat), z < n → CHk S k z c → c ≤ z := by
  intro k
  induction k with
  | zero => intro z c _ h; have h : c = z := h; omega
  | succ k ih =>
    intro z c hz h
    have hp := (sI_par hs hz h.1).1
    have := ih _ c (by omega) h.2
    omega
def pI (n : Nat) (S : Nat → Nat → Int32) : Prop := ∀ x, x < n → ¬ S 3 x = -1 → S 1 (S 3 x).toNatClampNeg = 0
theorem CHk_cls {n : Nat} {S : Nat → Nat → Int32} (hs : sI n S) (hp : pI n S) : ∀ (k z c : Nat), z < n → S 1 z = 0 → CHk S k z c → S 1 c = 0 := by
  intro k
  induction k with
  | zero => intro z c _ h1 h; have h : c = z := h; rw [h]; exact h1
  | succ k ih =>
    intro z c hz h1 h
    have hp1 := (sI_par hs hz h.1).1
    exact ih _ c (by omega) (hp z hz h.1) h.2
theorem ah_bt {n : Nat} {S : Nat → Nat → Int32} (hs : sI n S) {y : Nat} : ∀ (d z : Nat) (al : Int32), z < d → z < n → (bt (ah S d z al) y = true ↔ bt al y = true ∨ ∃ c, CH S z c ∧ ((¬ y = c ∧ ¬ S 2 y = 0 ∧ FR S c y) ∨ (¬ S 3 c = -1 ∧ y = (S 3 c).toNatClampNeg))) := by
  have hn := hs.1
  intro d
  induction d with
  | zero => intro z al h; omega
  | succ d ih =>
    intro z al hzd hz
    have hm : bt (al ||| ml S z (z + 1) (b1 z) (nI 0)) y = true ↔ bt al y = true ∨ (¬ y = z ∧ ¬ S 2 y = 0 ∧ FR S z y) := by
      rw [b_or, Bool.or_eq_true, ml_x hs hz, show bt (nI 0) y = false from b_0 y]
      constructor
      · rintro (h | h | h)
        · exact Or.inl h
        · exact Bool.noConfusion h
        · exact Or.inr h
      · rintro (h | h)
        · exact Or.inl h
        · exact Or.inr (Or.inr h)
    rw [ah]
    by_cases c : S 3 z = -1
    · rw [if_pos c, b_or0, hm]
      constructor
      · rintro (h | h)
        · exact Or.inl h
        · exact Or.inr ⟨z, ⟨0, rfl⟩, Or.inl h⟩
      · rintro (h | ⟨e, he, h⟩)
        · exact Or.inl h
        · rcases CH_un he with q | ⟨q, -⟩
          · subst q
            rcases h with h | ⟨h, -⟩
            · exact Or.inr h
            · exact absurd c h
          · exact absurd c q
    · obtain ⟨hp, he⟩ := sI_par hs hz c
      have e : nI 1 <<< (S 3 z &&& 31) = b1 (S 3 z).toNatClampNeg := by
        show _ = nI 1 <<< (nI (S 3 z).toNatClampNeg &&& 31)
        rw [← he]
      rw [if_neg c, ih _ _ (by omega) (by omega), e, b_add (by omega), hm]
      constructor
      · rintro (((h | h) | h) | ⟨c2, h1, h2⟩)
        · exact Or.inl h
        · exact Or.inr ⟨z, ⟨0, rfl⟩, Or.inl h⟩
        · exact Or.inr ⟨z, ⟨0, rfl⟩, Or.inr ⟨c, h⟩⟩
        · exact Or.inr ⟨c2, CH_st c h1, h2⟩
      · rintro (h | ⟨c2, h1, h2⟩)
        · exact Or.inl (Or.inl (Or.inl h))
        · rcases CH_un h1 with q | ⟨-, q⟩
          · subst q
            rcases h2 with h2 | ⟨-, h2⟩
            · exact Or.inl (Or.inl (Or.inr h2))
            · exact Or.inl (Or.inr h2)
          · exact Or.inr ⟨c2, q, h2⟩
theorem ah_lt {n x y : Nat} {S : Nat → Nat → Int32} (hs : sI n S) (hx : x < n) (h : bt (ah S (x + 1) x (nI 0)) y = true) : y < x := by
  rcases (ah_bt hs (x + 1) x (nI 0) (by omega) hx).mp h with q | ⟨c, ⟨k, hc⟩, h⟩
  · rw [show bt (nI 0) y = false from b_0 y] at q; exact Bool.noConfusion q
  · have hcx := CHk_le hs k x c hx hc
    rcases h with ⟨h1, -, h2⟩ | ⟨h1, h2⟩
    · rcases FR_lt hs (show c < n by omega) h2 with q | ⟨q, -⟩
      · exact absurd q h1
      · omega
    · have := (sI_par hs (show c < n by omega) h1).1
      omega
theorem ahead_E {n x : Nat} {S : Nat → Nat → Int32} (hs : sI n S) (hx : x < n) : (ah S (x + 1) x (nI 0) >>> (nI x &&& 31)) &&& nI 1 = nI 0 := by
  have hn := hs.1
  rw [sh_bit (by omega), if_neg]
  intro h
  have := ah_lt hs hx h
  omega
theorem ahead_F {y : Nat} (hy : y < 12) : (nI 0 >>> (nI y &&& 31)) &&& nI 1 = nI 0 := by
  rw [sh_bit (by omega), if_neg]
  intro h
  rw [show bt (nI 0) y = false from b_0 y] at h
  exact Bool.noConfusion h
theorem st_cls {n x : Nat} {S : Nat → Nat → Int32} {st : rST} (hs : sI n S) (hx : x < n) (hy : yI n st.1) : Iv S (fun _ => False) (rSt S x st) ∧ pS (rSt S x st) x ∧ (∀ P M, cl n S P M → P x → ∀ z, pS (rSt S x st) z → P z) ∧ yI n (rSt S x st).1 ∧ ∀ k, k = 0 ∨ k = 1 → (rSt S x st).1 k = st.1 k := by
  have hn := hs.1
  unfold rSt
  obtain ⟨o1, o2, o3, o4⟩ := cl0_S (S := S) hy
  obtain ⟨a1, a2, a3, a4, a5⟩ := rwL_S hs 12 x (rcl0 st) (by omega) hx o1 o2.any
  exact ⟨a3, a4, fun P M hc hP => (a5 P M hc hP (o3 P M)).1, a1.1, fun k hk => (a2.2.2.2.2 k hk).trans (o4 k hk)⟩
/-- a kind that is a face: nothing but itself -/
theorem ahead_FC {n x y : Nat} {S : Nat → Nat → Int32} {st : rST} (hs : sI n S) (hx : x < n) (hyn : y < n) (hxy : x ≠ y) (h1 : ¬ S 1 x = 0) (hy : yI n st.1) : (if (rSt S x st).1 2 0 &&& b1 y = 0 then nI 0 else nI 1) = nI 0 := by
  have hn := hs.1
  obtain ⟨-, -, a3, -⟩ := st_cls hs hx hy
  rw [if_pos]
  rw [and_b1 (by omega)]
  intro h
  have := a3 (fun z => z = x) (fun m => m < 4 * n) ⟨fun z q => by omega, fun m q => q, fun z q => by show 4 * z < 4 * n; omega, fun z q h => absurd h (by rw [q]; exact h1), fun z y q h => absurd h (by rw [q]; exact h1)⟩ rfl y h
  omega
theorem ahead_K {n x y : Nat} {S : Nat → Nat → Int32} {st : rST} (hs : sI n S) (hp : pI n S) (hx : x < n) (hyn : y < n) (hxy : x ≠ y) (h1 : S 1 x = 0) (hy : yI n st.1) : (if (rSt S x st).1 2 0 &&& b1 y = 0 then nI 0 else nI 1) = (ah S (x + 1) x (nI 0) >>> (nI y &&& 31)) &&& nI 1 := by
  have hn := hs.1
  obtain ⟨a1, a2, a3, -⟩ := st_cls hs hx hy
  rw [sh_bit (by omega)]
  have key : pS (rSt S x st) y ↔ bt (ah S (x + 1) x (nI 0)) y = true := by
    have up : ∀ k c, CHk S k x c → pS (rSt S x st) c := by
      intro k
      induction k with
      | zero => intro c h; have h : c = x := h; rw [h]; exact a2
      | succ k ih =>
        intro c h
        -- by the end of the chain
        have key2 : ∀ k z c, z < n → S 1 z = 0 → pS (rSt S x st) z → CHk S k z c → pS (rSt S x st) c := by
          intro k
          induction k with
          | zero => intro z c _ _ hz h; have h : c = z := h; rw [h]; exact hz
          | succ k ih2 =>
            intro z c hz hz1 hpz h
            have hpar := (sI_par hs hz h.1).1
            exact ih2 _ c (by omega) (hp z hz h.1) ((((a1 z hpz).2 hz1).1 h.1).elim id False.elim) h.2
        exact key2 (k + 1) x c hx h1 a2 h
    constructor
    · intro h
      have hP := a3 (fun z => z = x ∨ bt (ah S (x + 1) x (nI 0)) z = true) (fun m => m < 4 * n) (by
        refine ⟨fun z q => ?_, fun m q => q, fun z q => ?_, fun z q h1z h3 => Or.inr ?_, fun z w q h1z r1 r2 r3 => Or.inr ?_⟩
        · rcases q with q | q
          · omega
          · have := ah_lt hs hx q; omega
        · show 4 * z < 4 * n
          rcases q with q | q
          · omega
          · have := ah_lt hs hx q; omega
        · have hch : CH S x z := by
            rcases q with q | q
            · subst q; exact ⟨0, rfl⟩
            · rcases (ah_bt hs (x + 1) x (nI 0) (by omega) hx).mp q with q | ⟨c, ⟨k, hc⟩, ⟨r1, r2, r3⟩ | ⟨r1, r2⟩⟩
              · rw [show bt (nI 0) z = false from b_0 z] at q; exact Bool.noConfusion q
              · have hcx := CHk_le hs k x c hx hc
                rcases FR_lt hs (show c < n by omega) r3 with q | ⟨-, q⟩
                · exact absurd q r1
                · exact absurd h1z q
              · rw [r2]; exact ⟨k + 1, CHk_end k x c hc r1⟩
          exact (ah_bt hs (x + 1) x (nI 0) (by omega) hx).mpr (Or.inr ⟨z, hch, Or.inr ⟨h3, rfl⟩⟩)
        · have hch : CH S x z := by
            rcases q with q | q
            · subst q; exact ⟨0, rfl⟩
            · rcases (ah_bt hs (x + 1) x (nI 0) (by omega) hx).mp q with q | ⟨c, ⟨k, hc⟩, ⟨r1, r2, r3⟩ | ⟨r1, r2⟩⟩
              · rw [show bt (nI 0) z = false from b_0 z] at q; exact Bool.noConfusion q
              · have hcx := CHk_le hs k x c hx hc
                rcases FR_lt hs (show c < n by omega) r3 with q | ⟨-, q⟩
                · exact absurd q r1
                · exact absurd h1z q
              · rw [r2]; exact ⟨k + 1, CHk_end k x c hc r1⟩
          exact (ah_bt hs (x + 1) x (nI 0) (by omega) hx).mpr (Or.inr ⟨z, hch, Or.inl ⟨r1, r2, r3⟩⟩)) (Or.inl rfl) y h
      rcases hP with q | q
      · omega
      · exact q
    · intro h
      rcases (ah_bt hs (x + 1) x (nI 0) (by omega) hx).mp h with q | ⟨c, ⟨k, hc⟩, ⟨r1, r2, r3⟩ | ⟨r1, r2⟩⟩
      · rw [show bt (nI 0) y = false from b_0 y] at q; exact Bool.noConfusion q
      · exact ((a1 c (up k c hc)).2 (CHk_cls hs hp k x c hx h1 hc)).2 y r1 r2 r3
      · rw [r2]; exact up (k + 1) _ (CHk_end k x c hc r1)
  by_cases c : bt (ah S (x + 1) x (nI 0)) y = true
  · rw [if_pos c, if_neg]
    rw [and_b1 (by omega)]
    exact fun q => q (key.mpr c)
  · rw [if_neg c, if_pos]
    rw [and_b1 (by omega)]
    exact fun q => c (key.mp q)
