/-! THE RUN, 1: the reference's machine, step by step, as a relation -/
theorem m2e (M : Nat → Nat → Int32) (k i : Nat) (x : Int32) (a b : Nat) : m2 M k i x a b = if a = k ∧ b = i then x else M a b := by
  unfold m2 va_up
  by_cases h : a = k
  · subst h
    by_cases h2 : b = i
    · subst h2; simp
    · simp [h2]
  · simp [h]
def Go (a b : rf_ST) : Prop := ∃ k, rf_Run k a b
theorem Go.rf {a : rf_ST} : Go a a := ⟨0, rfl⟩
theorem Go.tr {a b c : rf_ST} (h1 : Go a b) (h2 : Go b c) : Go a c := by
  obtain ⟨k, h1⟩ := h1
  obtain ⟨j, h2⟩ := h2
  exact h1.app h2
theorem Go.st {S X S9 X9 : Nat → Nat → Int32} {f : Nat} (hf0 : X 22 0 = nI (f + 1)) (hf : f < 300) (hfl : X 31 0 = -1) (h : ∀ (l : Launch) (G : gw_G) (A : Nat → Prop) (adr : Nat → Nat), gm l yX7_step cX7_step 3 none (rmL 5) 0 0 A [.ref (adr 0)] (gW G A adr (rcel G adr S X)) (gW G A adr (rcel G adr S9 X9)) none) : Go (S, X) (S9, X9) :=
  ⟨1, rf_Run.one ⟨⟨f, hf0, hf⟩, Or.inl ⟨hfl, h⟩⟩⟩
theorem Go.fl {S X S9 X9 : Nat → Nat → Int32} {f : Nat} (hf0 : X 22 0 = nI (f + 1)) (hf : f < 300) (hfl : ¬ X 31 0 = -1) (h : ∀ (l : Launch) (G : gw_G) (A : Nat → Prop) (adr : Nat → Nat), gm l yX7_fly cX7_fly 4 none (rmL 1) 0 0 A [.ref (adr 0)] (gW G A adr (rcel G adr S X)) (gW G A adr (rcel G adr S9 X9)) none) : Go (S, X) (S9, X9) :=
  ⟨1, rf_Run.one ⟨⟨f, hf0, hf⟩, Or.inr ⟨hfl, h⟩⟩⟩
/-- the frames below f are the same -/
def Fr (f : Nat) (X X2 : Nat → Nat → Int32) : Prop := (∀ k j, 23 ≤ k → k ≤ 28 → j < f → X2 k j = X k j) ∧ ∀ k j, 29 ≤ k → k ≤ 30 → j < 10 * f → X2 k j = X k j
theorem Fr.rf {f : Nat} {X : Nat → Nat → Int32} : Fr f X X := ⟨fun _ _ _ _ _ => rfl, fun _ _ _ _ _ => rfl⟩
theorem Fr.tr {f : Nat} {X X2 X3 : Nat → Nat → Int32} (h1 : Fr f X X2) (h2 : Fr f X2 X3) : Fr f X X3 := ⟨fun k j a b c => (h2.1 k j a b c).trans (h1.1 k j a b c), fun k j a b c => (h2.2 k j a b c).trans (h1.2 k j a b c)⟩
theorem Fr.le {f g : Nat} {X X2 : Nat → Nat → Int32} (h : Fr f X X2) (hg : g ≤ f) : Fr g X X2 := ⟨fun k j a b c => h.1 k j a b (by omega), fun k j a b c => h.2 k j a b (by omega)⟩
theorem Fr.m2 {f k i : Nat} {v : Int32} {X X2 : Nat → Nat → Int32} (h : Fr f X X2) (hk : k < 23 ∨ 30 < k ∨ (k ≤ 28 ∧ f ≤ i) ∨ (29 ≤ k ∧ 10 * f ≤ i)) : Fr f X (m2 X2 k i v) := by
  refine ⟨fun a j h1 h2 h3 => ?_, fun a j h1 h2 h3 => ?_⟩
  · rw [m2e, if_neg (by omega)]; exact h.1 a j h1 h2 h3
  · rw [m2e, if_neg (by omega)]; exact h.2 a j h1 h2 h3
theorem Fr.push {f g : Nat} {w a b : Int32} {X X2 : Nat → Nat → Int32} (h : Fr f X X2) (hg : f ≤ g) : Fr f X (rf_push X2 g w a b) := by
  unfold rf_push
  exact (((((((h.m2 (by omega)).m2 (by omega)).m2 (by omega)).m2 (by omega)).m2 (by omega)).m2 (by omega)).m2 (by omega))
theorem pu_22 {X : Nat → Nat → Int32} {f : Nat} {w a b : Int32} : rf_push X f w a b 22 0 = nI (f + 1) := by simp [rf_push, m2e]
theorem pu_23 {X : Nat → Nat → Int32} {f : Nat} {w a b : Int32} : rf_push X f w a b 23 f = w := by simp [rf_push, m2e]
theorem pu_24 {X : Nat → Nat → Int32} {f : Nat} {w a b : Int32} : rf_push X f w a b 24 f = a := by simp [rf_push, m2e]
theorem pu_25 {X : Nat → Nat → Int32} {f : Nat} {w a b : Int32} : rf_push X f w a b 25 f = b := by simp [rf_push, m2e]
theorem pu_26 {X : Nat → Nat → Int32} {f : Nat} {w a b : Int32} : rf_push X f w a b 26 f = nI 0 := by simp [rf_push, m2e]
theorem pu_27 {X : Nat → Nat → Int32} {f : Nat} {w a b : Int32} : rf_push X f w a b 27 f = nI 0 := by simp [rf_push, m2e]
theorem pu_28 {X : Nat → Nat → Int32} {f : Nat} {w a b : Int32} : rf_push X f w a b 28 f = nI 0 := by simp [rf_push, m2e]
theorem pu_o {X : Nat → Nat → Int32} {f k j : Nat} {w a b : Int32} (h : k < 22 ∨ 28 < k) : rf_push X f w a b k j = X k j := by
  simp only [rf_push, m2e]
  rw [if_neg (by omega), if_neg (by omega), if_neg (by omega), if_neg (by omega), if_neg (by omega), if_neg (by omega), if_neg (by omega)]
/-- what is told of the cause -/
def Lk (Y X Y2 X2 : Nat → Nat → Int32) : Prop := (∀ k, k ≠ 1 → Y2 k = Y k) ∧ (Y 1 0 = X 19 0 → Y2 1 0 = X2 19 0)
theorem Lk.rf {Y X X2 : Nat → Nat → Int32} (h : X2 19 0 = X 19 0) : Lk Y X Y X2 := ⟨fun _ _ => rfl, fun q => by rw [h]; exact q⟩
theorem Lk.tr {Y X Y2 X2 Y3 X3 : Nat → Nat → Int32} (h1 : Lk Y X Y2 X2) (h2 : Lk Y2 X2 Y3 X3) : Lk Y X Y3 X3 := ⟨fun k hk => (h2.1 k hk).trans (h1.1 k hk), fun q => h2.2 (h1.2 q)⟩
theorem Lk.pre {Y X X0 Y2 X2 : Nat → Nat → Int32} (h0 : X 19 0 = X0 19 0) (h : Lk Y X Y2 X2) : Lk Y X0 Y2 X2 := ⟨h.1, fun q => h.2 (by rw [h0]; exact q)⟩
theorem Lk.post {Y X Y2 X2 X3 : Nat → Nat → Int32} (h : Lk Y X Y2 X2) (h0 : X3 19 0 = X2 19 0) : Lk Y X Y2 X3 := ⟨h.1, fun q => by rw [h0]; exact h.2 q⟩
/-- how a call ends: at the frame f, within d, with what is thrown -/
def Out (f d : Nat) (a : rf_ST) (Y X : Nat → Nat → Int32) (r : Int32 × cST) : Prop := ∃ X2, Go a (r.2.1, X2) ∧ X2 22 0 = nI f ∧ X2 21 0 = nI d ∧ X2 31 0 = r.1 ∧ Fr f X X2 ∧ Lk Y X r.2.2 X2 ∧ (r.1 = nI 7 → r.2.2 1 0 = X2 19 0)
theorem ar10 {S : Nat → Nat → Int32} : sp_ar S (nI 10) = S := by
  unfold sp_ar
  rw [if_pos (by decide), show S 18 0 + nI 0 = S 18 0 from Int32.add_zero _]
  exact m2_id rfl
theorem thr_lt7 {w : Int32} (h : thr w) (h1 : ¬ w = -1) : (w < nI 7 → w ≤ nI 6) ∧ (¬ w < nI 7 → nI 6 < w) := by
  rcases h with h | ⟨t, ht, rfl⟩
  · exact absurd h h1
  · constructor
    · intro q
      have : t < 7 := by
        by_cases c : t < 7
        · exact c
        · exact absurd q (nI_nlt (by omega) (by omega))
      rw [Int32.le_iff_toInt_le]
      have e1 : (nI 6).toInt = 6 := rfl
      have e2 : (nI t).toInt = t := nI_toInt (by omega)
      omega
    · intro q
      refine nI_lt ?_ (by omega)
      by_cases c : 6 < t
      · exact c
      · exact absurd (nI_lt (show t < 7 by omega) (by omega)) q
