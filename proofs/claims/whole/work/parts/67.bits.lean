/-! BITS -/
def bt (x : Int32) (i : Nat) : Bool := x.toBitVec.getLsbD i
theorem b_ext {x y : Int32} (h : ∀ i, i < 32 → bt x i = bt y i) : x = y := Int32.toBitVec_inj.mp (BitVec.eq_of_getLsbD_eq (fun i hi => h i hi))
theorem b_or (x y : Int32) (i : Nat) : bt (x ||| y) i = (bt x i || bt y i) := by unfold bt; rw [Int32.toBitVec_or, BitVec.getLsbD_or]
theorem b_and (x y : Int32) (i : Nat) : bt (x &&& y) i = (bt x i && bt y i) := by unfold bt; rw [Int32.toBitVec_and, BitVec.getLsbD_and]
theorem b_big {x : Int32} {i : Nat} (h : 32 ≤ i) : bt x i = false := BitVec.getLsbD_of_ge _ _ h
theorem b_0 (i : Nat) : bt 0 i = false := BitVec.getLsbD_zero
theorem s_l : ∀ n, n < 32 → ((nI n &&& 31).toBitVec.smod 32).toNat = n := by decide +kernel
theorem b_sshr (n : Nat) (hn : n < 32) (x : Int32) {i : Nat} (hi : i < 32) : bt (x >>> (nI n &&& 31)) i = if n + i < 32 then bt x (n + i) else bt x 31 := by
  unfold bt
  rw [Int32.toBitVec_shiftRight]
  show (x.toBitVec.sshiftRight ((nI n &&& 31).toBitVec.smod 32).toNat).getLsbD i = _
  rw [s_l n hn, BitVec.getLsbD_sshiftRight, BitVec.msb_eq_getLsbD_last]
  simp [hi]
theorem b_n1 : ∀ i, i < 32 → bt (nI 1) i = decide (i = 0) := by decide +kernel
theorem b1_l : ∀ f, f < 32 → ∀ i, i < 32 → bt (b1 f) i = decide (i = f) := by decide +kernel
theorem b1_bt {f i : Nat} (hf : f < 32) : bt (b1 f) i = decide (i = f) := by
  by_cases h : i < 32
  · exact b1_l f hf i h
  · rw [b_big (by omega), decide_eq_false (by omega)]
theorem b_add {w : Int32} {f i : Nat} (hf : f < 32) : bt (w ||| b1 f) i = true ↔ bt w i = true ∨ i = f := by
  rw [b_or, b1_bt hf]
  simp
theorem b_or0 {w : Int32} {i : Nat} : bt (w ||| nI 0) i = bt w i := by
  rw [b_or, show bt (nI 0) i = false from b_0 i]
  simp
theorem sh_bit {w : Int32} {f : Nat} (hf : f < 32) : (w >>> (nI f &&& 31)) &&& nI 1 = if bt w f = true then nI 1 else nI 0 := by
  refine b_ext (fun i hi => ?_)
  rw [b_and, b_sshr f hf w hi, b_n1 i hi]
  by_cases h0 : i = 0
  · subst h0
    rw [if_pos (by omega)]
    by_cases c : bt w f = true
    · rw [if_pos c, show f + 0 = f from rfl, c]; decide
    · rw [if_neg c, show f + 0 = f from rfl, Bool.eq_false_iff.mpr c]; decide
  · rw [decide_eq_false h0, Bool.and_false]
    split
    · rw [b_n1 i hi, decide_eq_false h0]
    · exact (b_0 i).symm
theorem bz_bt {w : Int32} {f : Nat} (hf : f < 32) : bz w f ↔ bt w f = true := by
  unfold bz
  rw [sh_bit hf]
  by_cases c : bt w f = true
  · rw [if_pos c]; exact ⟨fun _ => c, fun _ => rfl⟩
  · rw [if_neg c]; exact ⟨fun h => absurd h (by decide), fun h => absurd h c⟩
theorem and_b1 {w : Int32} {f : Nat} (hf : f < 32) : w &&& b1 f = 0 ↔ ¬ bt w f = true := by
  constructor
  · intro h c
    have e : bt (w &&& b1 f) f = bt 0 f := by rw [h]
    rw [b_and, b1_bt hf, c, b_0] at e
    simp at e
  · intro c
    refine b_ext (fun i hi => ?_)
    rw [b_and, b1_bt hf, b_0]
    by_cases h : i = f
    · subst h; simp [Bool.eq_false_iff.mpr c]
    · simp [h]
def lt (x : Int64) (i : Nat) : Bool := x.toBitVec.getLsbD i
theorem lb_l : ∀ m, m < 48 → ∀ i, i < 64 → lt (lb m) i = decide (i = m) := by decide +kernel
theorem lb_lt {m i : Nat} (hm : m < 48) : lt (lb m) i = decide (i = m) := by
  by_cases h : i < 64
  · exact lb_l m hm i h
  · rw [show lt (lb m) i = false from BitVec.getLsbD_of_ge _ _ (by omega), decide_eq_false (by omega)]
theorem l_0 (i : Nat) : lt 0 i = false := BitVec.getLsbD_zero
theorem l_add {w : Int64} {m i : Nat} (hm : m < 48) : lt (w ||| lb m) i = true ↔ lt w i = true ∨ i = m := by
  unfold lt
  rw [Int64.toBitVec_or, BitVec.getLsbD_or]
  rw [show (lb m).toBitVec.getLsbD i = decide (i = m) from lb_lt hm]
  simp
theorem and_lb {w : Int64} {m : Nat} (hm : m < 48) : w &&& lb m = 0 ↔ ¬ lt w m = true := by
  have ha : ∀ i, lt (w &&& lb m) i = (lt w i && decide (i = m)) := by
    intro i
    rw [← lb_lt hm]
    unfold lt
    rw [Int64.toBitVec_and, BitVec.getLsbD_and]
  constructor
  · intro h c
    have e := ha m
    rw [h, l_0, c] at e
    simp at e
  · intro c
    refine Int64.toBitVec_inj.mp (BitVec.eq_of_getLsbD_eq (fun i hi => ?_))
    show lt (w &&& lb m) i = lt 0 i
    rw [ha, l_0]
    by_cases h : i = m
    · subst h; simp [Bool.eq_false_iff.mpr c]
    · simp [h]
/-- how many of the first k are in -/
noncomputable def cnt (P : Nat → Prop) : Nat → Nat
  | 0 => 0
  | k + 1 => cnt P k + (match Classical.propDecidable (P k) with | .isTrue _ => 1 | .isFalse _ => 0)
theorem cnt_y {P : Nat → Prop} {k : Nat} (h : P k) : cnt P (k + 1) = cnt P k + 1 := by
  rw [cnt]
  cases Classical.propDecidable (P k) with
  | isTrue _ => rfl
  | isFalse q => exact absurd h q
theorem cnt_n {P : Nat → Prop} {k : Nat} (h : ¬ P k) : cnt P (k + 1) = cnt P k := by
  rw [cnt]
  cases Classical.propDecidable (P k) with
  | isTrue q => exact absurd q h
  | isFalse _ => rfl
theorem cnt_le (P : Nat → Prop) (k : Nat) : cnt P k ≤ k := by
  induction k with
  | zero => exact Nat.le_refl _
  | succ k ih =>
    by_cases h : P k
    · rw [cnt_y h]; omega
    · rw [cnt_n h]; omega
theorem cnt_mono {P Q : Nat → Prop} {k : Nat} (h : ∀ i, i < k → P i → Q i) : cnt P k ≤ cnt Q k := by
  induction k with
  | zero => exact Nat.le_refl _
  | succ k ih =>
    have := ih (fun i hi => h i (by omega))
    by_cases c : P k
    · rw [cnt_y c, cnt_y (h k (by omega) c)]; omega
    · rw [cnt_n c]
      by_cases d : Q k
      · rw [cnt_y d]; omega
      · rw [cnt_n d]; exact this
theorem cnt_lt {P Q : Nat → Prop} {k m : Nat} (h : ∀ i, i < k → P i → Q i) (hm : m < k) (h1 : ¬ P m) (h2 : Q m) : cnt P k < cnt Q k := by
  induction k with
  | zero => omega
  | succ k ih =>
    by_cases e : m = k
    · subst e
      rw [cnt_n h1, cnt_y h2]
      have := cnt_mono (P := P) (Q := Q) (k := m) (fun i hi => h i (show i < m + 1 by omega))
      omega
    · have := ih (fun i hi => h i (by omega)) (by omega)
      by_cases c : P k
      · rw [cnt_y c, cnt_y (h k (by omega) c)]; omega
      · rw [cnt_n c]
        by_cases d : Q k
        · rw [cnt_y d]; omega
        · rw [cnt_n d]; exact this
theorem cnt_add {P Q : Nat → Prop} {k m : Nat} (h : ∀ i, i < k → (Q i ↔ P i ∨ i = m)) (hm : m < k) (h1 : ¬ P m) : cnt Q k = cnt P k + 1 := by
  induction k with
  | zero => omega
  | succ k ih =>
    by_cases e : m = k
    · subst e
      rw [cnt_n h1, cnt_y ((h m (by omega)).mpr (Or.inr rfl))]
      have e1 := cnt_mono (P := P) (Q := Q) (k := m) (fun i hi hp => (h i (by omega)).mpr (Or.inl hp))
      have e2 := cnt_mono (P := Q) (Q := P) (k := m) (fun i hi hp => by
        rcases (h i (by omega)).mp hp with q | q
        · exact q
        · omega)
      omega
    · have := ih (fun i hi => h i (by omega)) (by omega)
      by_cases c : P k
      · rw [cnt_y c, cnt_y ((h k (by omega)).mpr (Or.inl c))]; omega
      · rw [cnt_n c]
        have d : ¬ Q k := fun q => by
          rcases (h k (by omega)).mp q with q | q
          · exact c q
          · omega
        rw [cnt_n d]; exact this
theorem cnt_all {P : Nat → Prop} {k : Nat} (h : k ≤ cnt P k) : ∀ i, i < k → P i := by
  intro i hi
  apply Classical.byContradiction
  intro c
  have e := cnt_lt (P := P) (Q := fun _ => True) (k := k) (m := i) (fun _ _ _ => trivial) hi c trivial
  have := cnt_le (fun _ => True) k
  omega
