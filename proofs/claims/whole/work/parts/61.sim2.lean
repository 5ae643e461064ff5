/-! THE RUN, 2: the guards -/
theorem lgB_ge {a : Nat → Int32} {mm : Nat} {t : Nat → Nat} {i b v : Nat} (hb : v ≤ b) : ∀ j, (∀ k, k < j → a (40 * mm + 4 * k) = nI 11 → i ≤ t k → v ≤ t k) → v ≤ lgB a mm t i b j := by
  intro j
  induction j with
  | zero => intro _; exact hb
  | succ j ih =>
    intro h
    have h1 := ih (fun k hk => h k (by omega))
    rw [lgB]
    split
    · rename_i c
      exact Nat.le_min.mpr ⟨h1, h j (by omega) c.1 c.2⟩
    · exact h1
theorem lgB_at {a : Nat → Int32} {mm : Nat} {t : Nat → Nat} {i b k : Nat} (h11 : a (40 * mm + 4 * k) = nI 11) (hi : i ≤ t k) : ∀ j, k < j → lgB a mm t i b j ≤ t k := by
  intro j
  induction j with
  | zero => intro h; omega
  | succ j ih =>
    intro h
    rw [lgB]
    by_cases c : k = j
    · subst c
      rw [if_pos ⟨h11, hi⟩]
      exact Nat.min_le_right _ _
    · split
      · exact Nat.le_trans (Nat.min_le_left _ _) (ih (by omega))
      · exact ih (by omega)
theorem lgN_enc {a : Nat → Int32} {mm t i : Nat} (ht : t < i) (h11 : a (40 * mm + 4 * t) = nI 11) (hi : i ≤ lgN a mm t) : lgN a mm i ≤ lgN a mm t := by
  rw [lgN_B]
  have h := lgB_at (a := a) (mm := mm) (t := lgT a mm i) (i := i) (b := i + (a (40 * mm + 4 * i + 1)).toNatClampNeg) (k := t) h11 (by rw [lgT_lt i t ht]; exact hi) i ht
  rw [lgT_lt i t ht] at h
  exact h
theorem lgN_no {a : Nat → Int32} {mm i : Nat} (h : ∀ k, k < i → a (40 * mm + 4 * k) = nI 11 → ¬ i ≤ lgN a mm k) : lgN a mm i = i + (a (40 * mm + 4 * i + 1)).toNatClampNeg := by
  refine Nat.le_antisymm (lgN_le a mm i) ?_
  rw [lgN_B]
  exact lgB_ge (Nat.le_refl _) i (fun k hk h11 hi => absurd (by rw [lgT_lt i k hk] at hi; exact hi) (h k hk h11))
theorem lgN_yes {a : Nat → Int32} {mm i t : Nat} (ht : t < i) (h11 : a (40 * mm + 4 * t) = nI 11) (hi : i ≤ lgN a mm t) (h : ∀ k, k < i → a (40 * mm + 4 * k) = nI 11 → i ≤ lgN a mm k → lgN a mm t ≤ lgN a mm k) : lgN a mm i = Nat.min (i + (a (40 * mm + 4 * i + 1)).toNatClampNeg) (lgN a mm t) := by
  refine Nat.le_antisymm (Nat.le_min.mpr ⟨lgN_le a mm i, lgN_enc ht h11 hi⟩) ?_
  have e : lgN a mm i = lgB a mm (lgT a mm i) i (i + (a (40 * mm + 4 * i + 1)).toNatClampNeg) i := lgN_B
  rw [e]
  refine lgB_ge (Nat.min_le_left _ _) i (fun k hk h1 h2 => ?_)
  rw [lgT_lt i k hk] at h2 ⊢
  exact Nat.le_trans (Nat.min_le_right _ _) (h k hk h1 h2)
def lgE (a : Nat → Int32) (mm ac t : Nat) : Nat := Nat.min (lgN a mm t + 1) ac
/-- the row of guards of the frame f, at the act i: gc of them, the p-th from the TRY te p -/
def Stk (a : Nat → Int32) (mm ac i f gc : Nat) (te : Nat → Nat) (X : Nat → Nat → Int32) : Prop := (gc ≤ i) ∧ (X 28 f = nI gc) ∧ (∀ p, p < gc → te p < i) ∧ (∀ p, p < gc → a (40 * mm + 4 * te p) = nI 11) ∧ (∀ p, p < gc → X 29 (10 * f + p) = nI (lgE a mm ac (te p))) ∧ (∀ p, p < gc → X 30 (10 * f + p) = a (40 * mm + 4 * te p + 2)) ∧ (∀ p p2, p < p2 → p2 < gc → te p < te p2) ∧ (∀ p p2, p < p2 → p2 < gc → lgN a mm (te p2) ≤ lgN a mm (te p)) ∧ (i < ac → ∀ j, j < i → a (40 * mm + 4 * j) = nI 11 → i ≤ lgN a mm j → ∃ p, p < gc ∧ te p = j)
theorem Stk.gi {a : Nat → Int32} {mm ac i f gc : Nat} {te : Nat → Nat} {X : Nat → Nat → Int32} (h : Stk a mm ac i f gc te X) : gc ≤ i := h.1
theorem Stk.h28 {a : Nat → Int32} {mm ac i f gc : Nat} {te : Nat → Nat} {X : Nat → Nat → Int32} (h : Stk a mm ac i f gc te X) : X 28 f = nI gc := h.2.1
theorem Stk.lt {a : Nat → Int32} {mm ac i f gc : Nat} {te : Nat → Nat} {X : Nat → Nat → Int32} (h : Stk a mm ac i f gc te X) : ∀ p, p < gc → te p < i := h.2.2.1
theorem Stk.t11 {a : Nat → Int32} {mm ac i f gc : Nat} {te : Nat → Nat} {X : Nat → Nat → Int32} (h : Stk a mm ac i f gc te X) : ∀ p, p < gc → a (40 * mm + 4 * te p) = nI 11 := h.2.2.2.1
theorem Stk.e29 {a : Nat → Int32} {mm ac i f gc : Nat} {te : Nat → Nat} {X : Nat → Nat → Int32} (h : Stk a mm ac i f gc te X) : ∀ p, p < gc → X 29 (10 * f + p) = nI (lgE a mm ac (te p)) := h.2.2.2.2.1
theorem Stk.e30 {a : Nat → Int32} {mm ac i f gc : Nat} {te : Nat → Nat} {X : Nat → Nat → Int32} (h : Stk a mm ac i f gc te X) : ∀ p, p < gc → X 30 (10 * f + p) = a (40 * mm + 4 * te p + 2) := h.2.2.2.2.2.1
theorem Stk.up {a : Nat → Int32} {mm ac i f gc : Nat} {te : Nat → Nat} {X : Nat → Nat → Int32} (h : Stk a mm ac i f gc te X) : ∀ p p2, p < p2 → p2 < gc → te p < te p2 := h.2.2.2.2.2.2.1
theorem Stk.dn {a : Nat → Int32} {mm ac i f gc : Nat} {te : Nat → Nat} {X : Nat → Nat → Int32} (h : Stk a mm ac i f gc te X) : ∀ p p2, p < p2 → p2 < gc → lgN a mm (te p2) ≤ lgN a mm (te p) := h.2.2.2.2.2.2.2.1
theorem Stk.cov {a : Nat → Int32} {mm ac i f gc : Nat} {te : Nat → Nat} {X : Nat → Nat → Int32} (h : Stk a mm ac i f gc te X) : i < ac → ∀ j, j < i → a (40 * mm + 4 * j) = nI 11 → i ≤ lgN a mm j → ∃ p, p < gc ∧ te p = j := h.2.2.2.2.2.2.2.2
/-- .. and all of them guard i -/
def Pop (a : Nat → Int32) (mm ac i f gc : Nat) (te : Nat → Nat) (X : Nat → Nat → Int32) : Prop := Stk a mm ac i f gc te X ∧ ∀ p, p < gc → i ≤ lgN a mm (te p)
theorem Stk.keep {a : Nat → Int32} {mm ac i f gc : Nat} {te : Nat → Nat} {X X2 : Nat → Nat → Int32} (h : Stk a mm ac i f gc te X) (h10 : gc ≤ 10) (hf : Fr (f + 1) X X2) : Stk a mm ac i f gc te X2 :=
  ⟨h.gi, (hf.1 28 f (by omega) (by omega) (by omega)).trans h.h28, h.lt, h.t11, fun p hp => (hf.2 29 _ (by omega) (by omega) (by omega)).trans (h.e29 p hp), fun p hp => (hf.2 30 _ (by omega) (by omega) (by omega)).trans (h.e30 p hp), h.up, h.dn, h.cov⟩
theorem Stk.same {a : Nat → Int32} {mm ac i f gc : Nat} {te : Nat → Nat} {X X2 : Nat → Nat → Int32} (h : Stk a mm ac i f gc te X) (e28 : X2 28 f = X 28 f) (e29 : ∀ p, p < gc → X2 29 (10 * f + p) = X 29 (10 * f + p)) (e30 : ∀ p, p < gc → X2 30 (10 * f + p) = X 30 (10 * f + p)) : Stk a mm ac i f gc te X2 :=
  ⟨h.gi, e28.trans h.h28, h.lt, h.t11, fun p hp => (e29 p hp).trans (h.e29 p hp), fun p hp => (e30 p hp).trans (h.e30 p hp), h.up, h.dn, h.cov⟩
/-- those that guard i no more are taken away -/
theorem Stk.pop {a : Nat → Int32} {mm ac i f gc : Nat} {te : Nat → Nat} {X : Nat → Nat → Int32} (h : Stk a mm ac i f gc te X) : ∃ gp, gp ≤ gc ∧ (∀ p, p < gp → i ≤ lgN a mm (te p)) ∧ ∀ p, gp ≤ p → p < gc → lgN a mm (te p) < i := by
  have key : ∀ k, k ≤ gc → ∃ gp, gp ≤ k ∧ (∀ p, p < gp → i ≤ lgN a mm (te p)) ∧ ∀ p, gp ≤ p → p < k → lgN a mm (te p) < i := by
    intro k
    induction k with
    | zero => intro _; exact ⟨0, Nat.le_refl _, fun p hp => by omega, fun p _ hp => by omega⟩
    | succ k ih =>
      intro hk
      by_cases c : i ≤ lgN a mm (te k)
      · refine ⟨k + 1, Nat.le_refl _, fun p hp => ?_, fun p h1 h2 => by omega⟩
        by_cases e : p = k
        · subst e; exact c
        · exact Nat.le_trans c (h.dn p k (by omega) (by omega))
      · obtain ⟨gp, h1, h2, h3⟩ := ih (by omega)
        refine ⟨gp, by omega, h2, fun p hp hp2 => ?_⟩
        by_cases e : p = k
        · subst e; omega
        · exact h3 p hp (by omega)
  exact key gc (Nat.le_refl _)
theorem Stk.popped {a : Nat → Int32} {mm ac i f gc gp : Nat} {te : Nat → Nat} {X X2 : Nat → Nat → Int32} (h : Stk a mm ac i f gc te X) (hg : gp ≤ gc) (h1 : ∀ p, p < gp → i ≤ lgN a mm (te p)) (h2 : ∀ p, gp ≤ p → p < gc → lgN a mm (te p) < i) (e28 : X2 28 f = nI gp) (e29 : ∀ p, p < gp → X2 29 (10 * f + p) = X 29 (10 * f + p)) (e30 : ∀ p, p < gp → X2 30 (10 * f + p) = X 30 (10 * f + p)) : Pop a mm ac i f gp te X2 := by
  refine ⟨⟨by have := h.gi; omega, e28, fun p hp => h.lt p (by omega), fun p hp => h.t11 p (by omega), fun p hp => (e29 p hp).trans (h.e29 p (by omega)), fun p hp => (e30 p hp).trans (h.e30 p (by omega)), fun p p2 q1 q2 => h.up p p2 q1 (by omega), fun p p2 q1 q2 => h.dn p p2 q1 (by omega), fun hi j hj h11 hl => ?_⟩, h1⟩
  obtain ⟨p, hp, hpe⟩ := h.cov hi j hj h11 hl
  refine ⟨p, ?_, hpe⟩
  by_cases c : p < gp
  · exact c
  · have := h2 p (by omega) hp
    rw [hpe] at this
    omega
/-- on to the next act, where the act i is no TRY -/
theorem Pop.next {a : Nat → Int32} {mm ac i f gp : Nat} {te : Nat → Nat} {X X2 : Nat → Nat → Int32} (h : Pop a mm ac i f gp te X) (hn : ¬ a (40 * mm + 4 * i) = nI 11) (e28 : X2 28 f = X 28 f) (e29 : ∀ p, p < gp → X2 29 (10 * f + p) = X 29 (10 * f + p)) (e30 : ∀ p, p < gp → X2 30 (10 * f + p) = X 30 (10 * f + p)) : Stk a mm ac (i + 1) f gp te X2 := by
  obtain ⟨h, -⟩ := h
  refine ⟨by have := h.gi; omega, e28.trans h.h28, fun p hp => by have := h.lt p hp; omega, h.t11, fun p hp => (e29 p hp).trans (h.e29 p hp), fun p hp => (e30 p hp).trans (h.e30 p hp), h.up, h.dn, fun hi j hj h11 hl => ?_⟩
  refine h.cov (by omega) j ?_ h11 (by omega)
  by_cases c : j = i
  · subst c; exact absurd h11 hn
  · omega
/-- .. and where it is one -/
theorem Pop.try {a : Nat → Int32} {mm ac i f gp : Nat} {te : Nat → Nat} {X X2 : Nat → Nat → Int32} (h : Pop a mm ac i f gp te X) (hi : i < ac) (h11 : a (40 * mm + 4 * i) = nI 11) (e28 : X2 28 f = nI (gp + 1)) (e29 : ∀ p, p < gp → X2 29 (10 * f + p) = X 29 (10 * f + p)) (e30 : ∀ p, p < gp → X2 30 (10 * f + p) = X 30 (10 * f + p)) (n30 : X2 30 (10 * f + gp) = a (40 * mm + 4 * i + 2)) {v ta : Nat} (hta : (a (40 * mm + 4 * i + 1)).toNatClampNeg = ta) (hv : v = Nat.min (i + 1 + ta) (if gp = 0 then ac else lgE a mm ac (te (gp - 1)))) (n29 : X2 29 (10 * f + gp) = nI v) : Stk a mm ac (i + 1) f (gp + 1) (fun p => if p = gp then i else te p) X2 := by
  obtain ⟨h, hp⟩ := h
  have hL : lgE a mm ac i = v := by
    by_cases c : gp = 0
    · subst c
      rw [if_pos rfl] at hv
      have e := lgN_no (a := a) (mm := mm) (i := i) (fun k hk q1 q2 => by obtain ⟨p, q, -⟩ := h.cov hi k hk q1 q2; omega)
      rw [lgE, e, hta, hv, show i + ta + 1 = i + 1 + ta by omega]
    · rw [if_neg c] at hv
      have e := lgN_yes (a := a) (mm := mm) (i := i) (t := te (gp - 1)) (h.lt _ (by omega)) (h.t11 _ (by omega)) (hp _ (by omega)) (fun k hk q1 q2 => by
        obtain ⟨p, q, qe⟩ := h.cov hi k hk q1 q2
        rw [← qe]
        by_cases d : p = gp - 1
        · rw [d]; exact Nat.le_refl _
        · exact h.dn p (gp - 1) (by omega) (by omega))
      rw [lgE, e, hta, hv, lgE]
      simp only [Nat.min_def]
      split <;> split <;> split <;> (try split) <;> omega
  refine ⟨by have := h.gi; omega, e28, fun p q => ?_, fun p q => ?_, fun p q => ?_, fun p q => ?_, fun p p2 q1 q2 => ?_, fun p p2 q1 q2 => ?_, fun hi2 j hj q11 hl => ?_⟩
  · by_cases c : p = gp
    · simp only [if_pos c]; omega
    · simp only [if_neg c]; have := h.lt p (by omega); omega
  · by_cases c : p = gp
    · simp only [if_pos c]; exact h11
    · simp only [if_neg c]; exact h.t11 p (by omega)
  · by_cases c : p = gp
    · simp only [if_pos c]; rw [c, n29, hL]
    · simp only [if_neg c]; rw [e29 p (by omega)]; exact h.e29 p (by omega)
  · by_cases c : p = gp
    · simp only [if_pos c]; rw [c, n30]
    · simp only [if_neg c]; rw [e30 p (by omega)]; exact h.e30 p (by omega)
  · simp only [if_neg (show ¬ p = gp by omega)]
    by_cases c : p2 = gp
    · rw [if_pos c]; exact h.lt p (by omega)
    · rw [if_neg c]; exact h.up p p2 q1 (by omega)
  · simp only [if_neg (show ¬ p = gp by omega)]
    by_cases c : p2 = gp
    · rw [if_pos c]; exact lgN_enc (h.lt p (by omega)) (h.t11 p (by omega)) (hp p (by omega))
    · rw [if_neg c]; exact h.dn p p2 q1 (by omega)
  · by_cases c : j = i
    · exact ⟨gp, by omega, by simp only [if_true]; exact c.symm⟩
    · obtain ⟨p, q, qe⟩ := h.cov hi j (by omega) q11 (by omega)
      exact ⟨p, by omega, by simp only [if_neg (show ¬ p = gp by omega)]; exact qe⟩
theorem cat_ct {a : Nat → Int32} {mm f p t : Nat} {w : Int32} {X : Nat → Nat → Int32} (e30 : X 30 (10 * f + p) = a (40 * mm + 4 * t + 2)) (hb : ¬ a (40 * mm + 4 * t + 2) = nI 10) : rf_cat X f p w ↔ ¬ ctI a (40 * mm + 4 * t) w = 0 := by
  unfold rf_cat ctI
  rw [e30]
  by_cases c : a (40 * mm + 4 * t + 2) = -1
  · rw [if_pos c]
    by_cases d : w = nI 10
    · rw [if_pos d]
      exact ⟨fun q => absurd d q.1, fun q => absurd rfl q⟩
    · rw [if_neg d]
      exact ⟨fun _ => by decide, fun _ => ⟨d, Or.inl c⟩⟩
  · rw [if_neg c]
    by_cases d : w = a (40 * mm + 4 * t + 2)
    · rw [if_pos d]
      exact ⟨fun _ => by decide, fun _ => ⟨fun q => hb (by rw [← d]; exact q), Or.inr d.symm⟩⟩
    · rw [if_neg d]
      exact ⟨fun q => absurd (q.2.resolve_left c).symm d, fun q => absurd rfl q⟩
/-- where a throw at i goes on: by the row of guards, or by the acts alone -/
theorem Pop.ecq {a : Nat → Int32} {mm ac i f gp : Nat} {te : Nat → Nat} {w : Int32} {X : Nat → Nat → Int32} (h : Pop a mm ac i f gp te X) (hi : i < ac) (h10 : i ≤ 10) (hok : ∀ j, j < i → a (40 * mm + 4 * j) = nI 11 → ¬ a (40 * mm + 4 * j + 2) = nI 10 ∧ lgN a mm j < 1000) : (∃ p, p < gp ∧ rf_cat X f p w ∧ (∀ p2, p < p2 → p2 < gp → ¬ rf_cat X f p2 w) ∧ eoc a mm i w i = nI (lgN a mm (te p))) ∨ ((∀ p, p < gp → ¬ rf_cat X f p w) ∧ eoc a mm i w i = -1) := by
  obtain ⟨h, hp⟩ := h
  have key : ∀ k, k ≤ i → (∃ p, p < gp ∧ te p < k ∧ rf_cat X f p w ∧ (∀ p2, p < p2 → p2 < gp → te p2 < k → ¬ rf_cat X f p2 w) ∧ eoc a mm i w k = nI (lgN a mm (te p))) ∨ ((∀ p, p < gp → te p < k → ¬ rf_cat X f p w) ∧ eoc a mm i w k = -1) := by
    intro k
    induction k with
    | zero => intro _; exact Or.inr ⟨fun p _ q => by omega, rfl⟩
    | succ k ih =>
      intro hk
      rw [eoc]
      by_cases g : gdI a mm k i = 0
      · rw [if_pos g]
        have hno : ∀ p, p < gp → te p < k + 1 → te p < k := by
          intro p hpp hlt
          by_cases c : te p = k
          · exfalso
            have h11 := h.t11 p hpp
            rw [c] at h11
            have hl := hp p hpp
            rw [c] at hl
            exact gd_no g (fun q => (hok k (by omega) q).2) ⟨h11, hl⟩
          · omega
        rcases ih (by omega) with ⟨p, q1, q2, q3, q4, q5⟩ | ⟨q1, q2⟩
        · exact Or.inl ⟨p, q1, by omega, q3, fun p2 r1 r2 r3 => q4 p2 r1 r2 (hno p2 r2 r3), q5⟩
        · exact Or.inr ⟨fun p r1 r2 => q1 p r1 (hno p r1 r2), q2⟩
      · rw [if_neg g]
        obtain ⟨g1, g2, g3⟩ := gd_yes g (fun q => (hok k (by omega) q).2) (by omega)
        obtain ⟨p, hpp, hpe⟩ := h.cov hi k (by omega) g1 g2
        have hct := cat_ct (w := w) (t := te p) (h.e30 p hpp) (by rw [hpe]; exact (hok k (by omega) g1).1)
        rw [hpe] at hct
        by_cases c : ctI a (40 * mm + 4 * k) w = 0
        · rw [if_pos c]
          have hnc : ¬ rf_cat X f p w := fun q => hct.mp q c
          have hin : ∀ p2, p2 < gp → te p2 < k + 1 → p2 = p ∨ te p2 < k := by
            intro p2 r1 r2
            by_cases d : te p2 = k
            · refine Or.inl ?_
              rcases Nat.lt_trichotomy p2 p with e | e | e
              · have := h.up p2 p e hpp; omega
              · exact e
              · have := h.up p p2 e r1; omega
            · exact Or.inr (by omega)
          rcases ih (by omega) with ⟨p3, q1, q2, q3, q4, q5⟩ | ⟨q1, q2⟩
          · refine Or.inl ⟨p3, q1, by omega, q3, fun p2 r1 r2 r3 => ?_, q5⟩
            rcases hin p2 r2 r3 with e | e
            · rw [e]; exact hnc
            · exact q4 p2 r1 r2 e
          · refine Or.inr ⟨fun p2 r1 r2 => ?_, q2⟩
            rcases hin p2 r1 r2 with e | e
            · rw [e]; exact hnc
            · exact q1 p2 r1 e
        · rw [if_neg c]
          refine Or.inl ⟨p, hpp, by omega, hct.mpr c, fun p2 r1 r2 r3 => ?_, by rw [g3, hpe]⟩
          have := h.up p p2 r1 r2
          omega
  rcases key i (Nat.le_refl _) with ⟨p, q1, q2, q3, q4, q5⟩ | ⟨q1, q2⟩
  · exact Or.inl ⟨p, q1, q3, fun p2 r1 r2 => q4 p2 r1 r2 (h.lt p2 r2), q5⟩
  · exact Or.inr ⟨fun p r => q1 p r (h.lt p r), q2⟩
/-- the row of guards behind a catch by the p-th -/
theorem Pop.caught {a : Nat → Int32} {mm ac i f gp p : Nat} {te : Nat → Nat} {X X2 : Nat → Nat → Int32} (h : Pop a mm ac i f gp te X) (hi : i < ac) (hn : ¬ a (40 * mm + 4 * i) = nI 11) (hpg : p < gp) (e28 : X2 28 f = nI p) (e29 : ∀ p2, p2 < p → X2 29 (10 * f + p2) = X 29 (10 * f + p2)) (e30 : ∀ p2, p2 < p → X2 30 (10 * f + p2) = X 30 (10 * f + p2)) : Stk a mm ac (lgE a mm ac (te p)) f p te X2 := by
  obtain ⟨h, hp⟩ := h
  have hl := hp p hpg
  have hgt : i < lgE a mm ac (te p) := by
    unfold lgE
    exact Nat.lt_min.mpr ⟨by omega, hi⟩
  have hle : lgE a mm ac (te p) ≤ lgN a mm (te p) + 1 := Nat.min_le_left _ _
  refine ⟨by have := h.gi; omega, e28, fun p2 q => by have := h.lt p2 (by omega); omega, fun p2 q => h.t11 p2 (by omega), fun p2 q => (e29 p2 q).trans (h.e29 p2 (by omega)), fun p2 q => (e30 p2 q).trans (h.e30 p2 (by omega)), fun p2 p3 q1 q2 => h.up p2 p3 q1 (by omega), fun p2 p3 q1 q2 => h.dn p2 p3 q1 (by omega), fun hac j hj h11 hlj => ?_⟩
  have he : lgE a mm ac (te p) = lgN a mm (te p) + 1 := by
    unfold lgE at hac ⊢
    rcases Nat.le_total (lgN a mm (te p) + 1) ac with c | c
    · exact Nat.min_eq_left c
    · rw [show Nat.min (lgN a mm (te p) + 1) ac = ac from Nat.min_eq_right c] at hac
      omega
  have hlt := h.lt p hpg
  by_cases c : j < i
  · obtain ⟨p3, q1, q2⟩ := h.cov hi j c h11 (by omega)
    refine ⟨p3, ?_, q2⟩
    by_cases d : p3 < p
    · exact d
    · exfalso
      have : lgN a mm (te p3) ≤ lgN a mm (te p) := by
        by_cases e : p3 = p
        · rw [e]; exact Nat.le_refl _
        · exact h.dn p p3 (by omega) q1
      rw [q2] at this
      omega
  · exfalso
    by_cases d : j = i
    · subst d; exact hn h11
    · have := lgN_enc (a := a) (mm := mm) (t := te p) (i := j) (by omega) (h.t11 p hpg) (by omega)
      omega
