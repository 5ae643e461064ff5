/-! .. the turns of the reference -/
theorem mtz_y {S X : Nat → Nat → Int32} {z : Nat} (hz : z < 32) (h : bt (mt_z S X z 32 0) z = true) : mt_z S X (z + 1) = mw_X S (mt_z S X z) z := by
  rw [mt_z, if_pos (by rw [sh_bit hz, if_pos h])]
theorem mtz_n {S X : Nat → Nat → Int32} {z : Nat} (hz : z < 32) (h : ¬ bt (mt_z S X z 32 0) z = true) : mt_z S X (z + 1) = mt_z S X z := by
  rw [mt_z, if_neg (by rw [sh_bit hz, if_neg h]; decide)]
theorem mtz_s {n : Nat} {S X : Nat → Nat → Int32} (hs : sI n S) {z : Nat} (hz : z < n) : leX (mt_z S X z) (mt_z S X (z + 1)) := by
  have hn := hs.1
  by_cases h : bt (mt_z S X z 32 0) z = true
  · rw [mtz_y (by omega) h]; exact mwX_le hs hz
  · rw [mtz_n (by omega) h]; exact leX.rf
theorem mtz_le {n : Nat} {S X : Nat → Nat → Int32} (hs : sI n S) (a : Nat) : ∀ d, a + d ≤ n → leX (mt_z S X a) (mt_z S X (a + d)) := by
  intro d
  induction d with
  | zero => intro _; exact leX.rf
  | succ d ih => intro h; exact (ih (by omega)).tr (mtz_s hs (show a + d < n by omega))
theorem mtz_sb {n : Nat} {P M : Nat → Prop} {S X : Nat → Nat → Int32} (hs : sI n S) (hc : cl n S P M) (h : sbX P M X) : ∀ k, k ≤ n → sbX P M (mt_z S X k) := by
  have hn := hs.1
  intro k
  induction k with
  | zero => intro _; exact h
  | succ k ih =>
    intro hk
    have h1 := ih (by omega)
    by_cases c : bt (mt_z S X k 32 0) k = true
    · rw [mtz_y (by omega) c]; exact mwX_sb hs hc (h1.1 k c) h1
    · rw [mtz_n (by omega) c]; exact h1
theorem k4 (k : Nat) : k = 4 * (k / 4) + k % 4 := by omega
theorem maX_leK {n k : Nat} {S X : Nat → Nat → Int32} (hs : sI n S) (hk : k < 4 * n) : leX X (ma_X S X k (S 10 k).toNatClampNeg) := by
  have h := maX_le (X := X) hs (show k / 4 < n by omega) (show k % 4 < 4 by omega)
  rw [← k4 k] at h
  exact h
theorem maX_sbK {n k : Nat} {P M : Nat → Prop} {S X : Nat → Nat → Int32} (hs : sI n S) (hk : k < 4 * n) (hc : cl4 n S P M) (hM : M k) (h : sbX P M X) : sbX P M (ma_X S X k (S 10 k).toNatClampNeg) := by
  have h := maX_sb (X := X) hs (show k / 4 < n by omega) (show k % 4 < 4 by omega) hc (by rw [← k4 k]; exact hM) h
  rw [← k4 k] at h
  exact h
theorem mtm_sb {n : Nat} {P M : Nat → Prop} {S X : Nat → Nat → Int32} (hs : sI n S) (hc : cl n S P M) (hc4 : cl4 n S P M) (h : sbX P M X) : ∀ k, k ≤ 48 → sbX P M (mt_m S X k) := by
  intro k
  induction k with
  | zero => intro _; exact h
  | succ k ih =>
    intro hk
    have h1 := ih (by omega)
    rw [mt_m]
    by_cases c : mt_m S X k 33 k = 0
    · rw [if_pos c]; exact h1
    · rw [if_neg c]
      have hM := h1.2 k (by omega) c
      exact maX_sbK hs (hc.2.1 k hM) hc4 hM h1
theorem mtm_s {n : Nat} {S X : Nat → Nat → Int32} (hs : sI n S) (h : sbX (fun z => z < n) (fun m => m < 4 * n) X) {k : Nat} (hk : k < 48) : leX (mt_m S X k) (mt_m S X (k + 1)) := by
  have h1 := mtm_sb hs (cl_all hs) (cl4_all hs) h k (by omega)
  rw [mt_m]
  by_cases c : mt_m S X k 33 k = 0
  · rw [if_pos c]; exact leX.rf
  · rw [if_neg c]
    exact maX_leK hs (h1.2 k hk c)
theorem mtm_le {n : Nat} {S X : Nat → Nat → Int32} (hs : sI n S) (h : sbX (fun z => z < n) (fun m => m < 4 * n) X) (a : Nat) : ∀ d, a + d ≤ 48 → leX (mt_m S X a) (mt_m S X (a + d)) := by
  intro d
  induction d with
  | zero => intro _; exact leX.rf
  | succ d ih => intro hd; exact (ih (by omega)).tr (mtm_s hs h (show a + d < 48 by omega))
def fu (n : Nat) (X : Nat → Nat → Int32) : Prop := sbX (fun z => z < n) (fun m => m < 4 * n) X
theorem my1_sb {n : Nat} {P M : Nat → Prop} {S X : Nat → Nat → Int32} (hs : sI n S) (hc : cl n S P M) (hc4 : cl4 n S P M) (h : sbX P M X) : sbX P M (my_1 S n X) := mtm_sb hs hc hc4 (mtz_sb hs hc h n (Nat.le_refl _)) 48 (Nat.le_refl _)
theorem my1_fu {n : Nat} {S X : Nat → Nat → Int32} (hs : sI n S) (h : fu n X) : fu n (my_1 S n X) := my1_sb hs (cl_all hs) (cl4_all hs) h
theorem my1_m {n : Nat} {S X : Nat → Nat → Int32} (hs : sI n S) (h : fu n X) : leX (mt_z S X n) (my_1 S n X) := by
  have := mtm_le hs (mtz_sb hs (cl_all hs) h n (Nat.le_refl _)) 0 48 (by omega)
  exact this
theorem my1_le {n : Nat} {S X : Nat → Nat → Int32} (hs : sI n S) (h : fu n X) : leX X (my_1 S n X) := by
  have h1 := mtz_le (X := X) hs 0 n (by omega)
  rw [Nat.zero_add] at h1
  exact h1.tr (my1_m hs h)
def PX (X : Nat → Nat → Int32) (z : Nat) : Prop := bt (X 32 0) z = true
def MX (X : Nat → Nat → Int32) (m : Nat) : Prop := m < 48 ∧ ¬ X 33 m = 0
def clX (n : Nat) (S X : Nat → Nat → Int32) : Prop := cl n S (PX X) (MX X) ∧ cl4 n S (PX X) (MX X)
theorem fix_cl {n : Nat} {S X : Nat → Nat → Int32} (hs : sI n S) (h : fu n X) (hf : leX (my_1 S n X) X) : clX n S X := by
  have hn := hs.1
  have wz : ∀ z, PX X z → leX (mw_X S (mt_z S X z) z) X := by
    intro z hz
    have hzn := h.1 z hz
    have e0 := mtz_le (X := X) hs 0 z (by omega)
    rw [Nat.zero_add] at e0
    have e := mtz_y (by omega) (e0.1 z hz)
    have e1 := mtz_le (X := X) hs (z + 1) (n - (z + 1)) (by omega)
    rw [show z + 1 + (n - (z + 1)) = n by omega, e] at e1
    exact (e1.tr (my1_m hs h)).tr hf
  refine ⟨⟨h.1, fun m hm => h.2 m hm.1 hm.2, fun z hz => ?_, fun z hz h1 hp => ?_, fun z y hz h1 hy h2 hr => ?_⟩, fun x q i hx hq hM hi => ?_⟩
  · have hzn := h.1 z hz
    exact ⟨by omega, (wz z hz).2 _ (by omega) (mwX_m.mpr (Or.inr rfl))⟩
  · exact (wz z hz).1 _ ((mwX_p hs (h.1 z hz)).mpr (Or.inr (Or.inr ⟨h1, Or.inl ⟨hp, rfl⟩⟩)))
  · exact (wz z hz).1 _ ((mwX_p hs (h.1 z hz)).mpr (Or.inr (Or.inr ⟨h1, Or.inr ⟨hy, h2, hr⟩⟩)))
  · have hZ := mtz_sb hs (cl_all hs) h n (Nat.le_refl _)
    have e0 := mtm_le hs hZ 0 (4 * x + q) (by omega)
    have z0 := mtz_le (X := X) hs 0 n (by omega)
    rw [Nat.zero_add] at z0 e0
    have hm : ¬ mt_m S (mt_z S X n) (4 * x + q) 33 (4 * x + q) = 0 := e0.2 _ (by omega) (z0.2 _ (by omega) hM.2)
    have e1 := mtm_le hs hZ (4 * x + q + 1) (48 - (4 * x + q + 1)) (by omega)
    rw [show 4 * x + q + 1 + (48 - (4 * x + q + 1)) = 48 by omega, mt_m, if_neg hm] at e1
    have e2 := leX.tr e1 hf
    refine ⟨fun hw => e2.1 _ ((maX_p hs hx hq _ _ (Nat.le_refl _)).mpr (Or.inr ⟨i, hi, hw, rfl⟩)), fun h7 => ?_⟩
    have hb := act_7m hs hx hq hi h7
    exact ⟨by omega, e2.2 _ (by omega) ((maX_m _).mpr (Or.inr ⟨i, hi, h7, rfl⟩))⟩
theorem clX_to {n : Nat} {S X X2 : Nat → Nat → Int32} (h : clX n S X) (h1 : leX X X2) (h2 : leX X2 X) : clX n S X2 := by
  have eP : PX X = PX X2 := funext fun z => propext ⟨h1.1 z, h2.1 z⟩
  have eM : MX X = MX X2 := funext fun m => propext ⟨fun q => ⟨q.1, h1.2 m q.1 q.2⟩, fun q => ⟨q.1, h2.2 m q.1 q.2⟩⟩
  unfold clX at h ⊢
  rw [← eP, ← eM]
  exact h
noncomputable def ctX (X : Nat → Nat → Int32) : Nat := cnt (PX X) 12 + cnt (MX X) 48
theorem ct_up {X X2 : Nat → Nat → Int32} {n : Nat} (hn : n ≤ 12) (hf : fu n X2) (h : leX X X2) (h2 : ¬ leX X2 X) : ctX X < ctX X2 := by
  have a1 : ∀ i, i < 12 → PX X i → PX X2 i := fun i _ q => h.1 i q
  have a2 : ∀ i, i < 48 → MX X i → MX X2 i := fun i _ q => ⟨q.1, h.2 i q.1 q.2⟩
  have b1 := cnt_mono a1
  have b2 := cnt_mono a2
  unfold ctX
  by_cases c : ∃ z, bt (X2 32 0) z = true ∧ ¬ bt (X 32 0) z = true
  · obtain ⟨z, q1, q2⟩ := c
    have := cnt_lt a1 (show z < 12 by have : z < n := hf.1 z q1
                                      omega) q2 q1
    omega
  · have d : ∃ m, m < 48 ∧ ¬ X2 33 m = 0 ∧ X 33 m = 0 := by
      apply Classical.byContradiction
      intro q
      apply h2
      refine ⟨fun z q1 => Classical.byContradiction fun q2 => c ⟨z, q1, q2⟩, fun m hm q1 q2 => q ⟨m, hm, q1, q2⟩⟩
    obtain ⟨m, hm, q1, q2⟩ := d
    have := cnt_lt a2 hm (fun q => q.2 q2) ⟨hm, q1⟩
    omega
theorem mtt_inv {n : Nat} {S X : Nat → Nat → Int32} (hs : sI n S) (h : fu n X) : ∀ t, fu n (mt_t S n X t) ∧ (clX n S (mt_t S n X t) ∨ t ≤ ctX (mt_t S n X t)) := by
  intro t
  induction t with
  | zero => exact ⟨h, Or.inr (Nat.zero_le _)⟩
  | succ t ih =>
    obtain ⟨hf, ih⟩ := ih
    rw [mt_t]
    refine ⟨my1_fu hs hf, ?_⟩
    rcases ih with c | c
    · have e := my1_sb (X := mt_t S n X t) hs c.1 c.2 ⟨fun z q => q, fun m hm q => ⟨hm, q⟩⟩
      exact Or.inl (clX_to c (my1_le hs hf) ⟨e.1, fun m hm q => (e.2 m hm q).2⟩)
    · by_cases d : leX (my_1 S n (mt_t S n X t)) (mt_t S n X t)
      · exact Or.inl (clX_to (fix_cl hs hf d) (my1_le hs hf) d)
      · have := ct_up hs.1 (my1_fu hs hf) (my1_le hs hf) d
        exact Or.inr (by omega)
theorem mtt_60 {n : Nat} {S X : Nat → Nat → Int32} (hs : sI n S) (h : fu n X) : clX n S (mt_t S n X 60) := by
  obtain ⟨hf, c | c⟩ := mtt_inv hs h 60
  · exact c
  · refine fix_cl hs hf ?_
    have hn := hs.1
    have a1 := cnt_le (PX (mt_t S n X 60)) 12
    have a2 := cnt_le (MX (mt_t S n X 60)) 48
    unfold ctX at c
    have b1 := cnt_all (P := PX (mt_t S n X 60)) (k := 12) (by omega)
    have b2 := cnt_all (P := MX (mt_t S n X 60)) (k := 48) (by omega)
    have e := my1_fu hs hf
    exact ⟨fun z q => b1 z (by have : z < n := e.1 z q
                               omega), fun m hm _ => (b2 m hm).2⟩
theorem mtt_sb {n : Nat} {P M : Nat → Prop} {S X : Nat → Nat → Int32} (hs : sI n S) (hc : cl n S P M) (hc4 : cl4 n S P M) (h : sbX P M X) : ∀ t, sbX P M (mt_t S n X t) := by
  intro t
  induction t with
  | zero => exact h
  | succ t ih => exact my1_sb hs hc hc4 ih
theorem mtt_le {n : Nat} {S X : Nat → Nat → Int32} (hs : sI n S) (h : fu n X) : ∀ t, leX X (mt_t S n X t) := by
  intro t
  induction t with
  | zero => exact leX.rf
  | succ t ih => exact ih.tr (my1_le hs (mtt_inv hs h t).1)
theorem mz_0 {X : Nat → Nat → Int32} {m : Nat} : ∀ k, m < k → mz X k 33 m = 0 := by
  intro k
  induction k with
  | zero => intro h; omega
  | succ k ih =>
    intro h
    rw [mz, m2e]
    by_cases c : m = k
    · rw [if_pos ⟨rfl, c⟩]; rfl
    · rw [if_neg (fun q => c q.2)]; exact ih (by omega)
theorem my0_sb {P M : Nat → Prop} {X : Nat → Nat → Int32} {x q : Nat} (hx : x < 12) (hP : P x) (hM : M (4 * x + q)) : sbX P M (my0 X x q) := by
  unfold my0
  refine ⟨fun z h => ?_, fun m hm h => ?_⟩
  · rw [m2_nk (by decide), m2_at, b1_bt (by omega)] at h
    have e : z = x := by simpa using h
    rw [e]; exact hP
  · rw [m2e] at h
    by_cases c : m = 4 * x + q
    · rw [c]; exact hM
    · rw [if_neg (fun q => c q.2), m2_nk (by decide)] at h
      exact absurd (mz_0 48 hm) h
/-- the reference's may: the least closed set -/
theorem may_ref {n x q : Nat} {S X : Nat → Nat → Int32} (hs : sI n S) (hx : x < n) (hq : q < 4) : clX n S (mt_t S n (my0 X x q) 60) ∧ PX (mt_t S n (my0 X x q) 60) x ∧ MX (mt_t S n (my0 X x q) 60) (4 * x + q) ∧ ∀ P M, cl n S P M → cl4 n S P M → P x → M (4 * x + q) → ∀ z, PX (mt_t S n (my0 X x q) 60) z → P z := by
  have hn := hs.1
  have hf : fu n (my0 X x q) := my0_sb (by omega) hx (by show _ < 4 * n; omega)
  have hl := mtt_le hs hf 60
  refine ⟨mtt_60 hs hf, hl.1 x ?_, ⟨by omega, hl.2 _ (by omega) ?_⟩, fun P M hc hc4 h1 h2 z hz => (mtt_sb hs hc hc4 (my0_sb (by omega) h1 h2) 60).1 z hz⟩
  · unfold my0
    rw [m2_nk (by decide), m2_at, b1_bt (by omega)]; simp
  · unfold my0
    rw [m2_at]; exact n1_ne
