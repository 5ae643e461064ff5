/-! CLASS AND REFERENCE SIDE BY SIDE, 1 -/
def iv (n : Nat) (S Y X : Nat → Nat → Int32) : Prop := sI n S ∧ dI n S ∧ zI n S ∧ yI n Y ∧ pI n S ∧ X 20 0 = (if Y 0 0 = nI 7 then Y 1 0 else -1)
/-- a call of the class: its answer, the world behind it -/
def okC (y : MethodName) (b : ByteArray) (nL : Nat) (as : List Value) (n : Nat) (S Y : Nat → Nat → Int32) (L : Int64) (v : Int32) (n2 : Nat) (S2 Y2 : Nat → Nat → Int32) (L2 : Int64) : Prop := ∀ (l : Launch) (G : gw_G) (A : Nat → Prop) (adr : Nat → Nat), ∃ (rm : Room) (Pre Post : State → Prop), gm l y b nL (some .int) rm rm.cells rm.slots A (.ref (adr 0) :: as) Pre Post (some (.int v)) ∧ rm.cells ≤ 14 ∧ rm.slots ≤ 99 ∧ rm.frames ≤ 600 ∧ rm.locals ≤ 36000 ∧ (∀ U, gWa G A adr (ccel G adr n S Y L) U → Pre U) ∧ (∀ as, FrameBlind (va_Pc as Pre)) ∧ ∀ U, Post U → ∃ adr2 : Nat → Nat, adr2 0 = adr 0 ∧ gW G A adr2 (ccel G adr2 n2 S2 Y2 L2) U
/-- a call of the reference -/
def okR (y : MethodName) (b : ByteArray) (nL : Nat) (as : List Value) (S X : Nat → Nat → Int32) (v : Int32) (S2 X2 : Nat → Nat → Int32) : Prop := ∃ k, k ≤ 20 ∧ ∀ (l : Launch) (G : gw_G) (A : Nat → Prop) (adr : Nat → Nat), gm l y b nL (some .int) (rmL k) 0 0 A (.ref (adr 0) :: as) (gW G A adr (rcel G adr S X)) (gW G A adr (rcel G adr S2 X2)) (some (.int v))
theorem okC.of {y : MethodName} {b : ByteArray} {nL k n n2 : Nat} {as : List Value} {S Y S2 Y2 : Nat → Nat → Int32} {L L2 : Int64} {v : Int32} (hk : k ≤ 600) (h : ∀ (l : Launch) (G : gw_G) (A : Nat → Prop) (adr : Nat → Nat), gm l y b nL (some .int) (rmL k) 0 0 A (.ref (adr 0) :: as) (gW G A adr (ccel G adr n S Y L)) (gW G A adr (ccel G adr n2 S2 Y2 L2)) (some (.int v))) : okC y b nL as n S Y L v n2 S2 Y2 L2 :=
  fun l G A adr => ⟨rmL k, _, _, h l G A adr, Nat.zero_le _, Nat.zero_le _, hk, by show 60 * k ≤ 36000; omega, fun _ q => q.1, fun _ => gW.blind, fun _ q => ⟨adr, rfl, q⟩⟩
theorem okC.ofA {y : MethodName} {b : ByteArray} {nL k c s n n2 : Nat} {as : List Value} {S Y S2 Y2 : Nat → Nat → Int32} {L L2 : Int64} {v : Int32} (hk : k ≤ 600) (hc : c ≤ 14) (hs : s ≤ 99) (E : (Nat → Nat) → (Nat → Nat) → Prop) (hE : ∀ a a2, E a a2 → a2 0 = a 0) (h : ∀ (l : Launch) (G : gw_G) (A : Nat → Prop) (adr : Nat → Nat), gm l y b nL (some .int) (rmA k c s) c s A (.ref (adr 0) :: as) (gWa G A adr (ccel G adr n S Y L)) (fun U => ∃ adr2 : Nat → Nat, E adr adr2 ∧ gW G A adr2 (ccel G adr2 n2 S2 Y2 L2) U) (some (.int v))) : okC y b nL as n S Y L v n2 S2 Y2 L2 :=
  fun l G A adr => ⟨rmA k c s, _, _, h l G A adr, hc, hs, hk, by show 60 * k ≤ 36000; omega, fun _ q => q, fun _ => gWa.blind, fun _ q => by obtain ⟨a2, e, w⟩ := q; exact ⟨a2, hE _ _ e, w⟩⟩
/-- both: the same answer, and the invariant behind it -/
def pr (y6 : MethodName) (b6 : ByteArray) (n6 : Nat) (y7 : MethodName) (b7 : ByteArray) (n7 : Nat) (as : List Value) (n : Nat) (S Y : Nat → Nat → Int32) (L : Int64) (X : Nat → Nat → Int32) : Prop := ∃ (v : Int32) (n2 : Nat) (S2 Y2 : Nat → Nat → Int32) (L2 : Int64) (X2 : Nat → Nat → Int32), iv n2 S2 Y2 X2 ∧ okC y6 b6 n6 as n S Y L v n2 S2 Y2 L2 ∧ okR y7 b7 n7 as S X v S2 X2
section P1
variable {n : Nat} {S Y X : Nat → Nat → Int32} {L : Int64}
theorem pr_cause (h : iv n S Y X) : pr yX6_cause cX6_cause 2 yX7_cause cX7_cause 1 [] n S Y L X :=
  ⟨_, n, S, Y, L, X, h, okC.of (k := 0) (by omega) (fun l G A adr => c_X6_cause l G A adr n S Y L), 0, by omega, fun l G A adr => by rw [← h.2.2.2.2.2]; exact c_X7_cause l G A adr S X⟩
theorem pr_count (h : iv n S Y X) (x0 : Int32) : pr yX6_count cX6_count 3 yX7_count cX7_count 2 [.int x0] n S Y L X :=
  ⟨_, n, S, Y, L, X, h, okC.of (k := 0) (by omega) (fun l G A adr => c_X6_count l G A adr n S Y L x0), 0, by omega, fun l G A adr => c_X7_count l G A adr S X x0⟩
theorem pr_event (h : iv n S Y X) (x0 x1 : Int32) : pr yX6_event cX6_event 4 yX7_event cX7_event 3 [.int x0, .int x1] n S Y L X :=
  ⟨_, n, S, Y, L, X, h, okC.of (k := 0) (by omega) (fun l G A adr => c_X6_event l G A adr n S Y L (cev S) x0 x1 h.2.1.ev.1 h.2.1.ev.2), 0, by omega, fun l G A adr => c_X7_event l G A adr S X (cev S) x0 x1 h.2.1.ev.1 h.2.1.ev.2⟩
theorem pr_state (h : iv n S Y X) (x0 : Int32) : pr yX6_state cX6_state 3 yX7_state cX7_state 2 [.int x0] n S Y L X :=
  ⟨_, n, S, Y, L, X, h, okC.of (k := 1) (by omega) (fun l G A adr => c_X6_state l G A adr n S Y L x0 h.1.2.1 h.1.1), 1, by omega, fun l G A adr => c_X7_state l G A adr S X n x0 h.1.2.1 h.1.1⟩
theorem pr_field (h : iv n S Y X) (x0 x1 : Int32) : pr yX6_field cX6_field 4 yX7_field cX7_field 3 [.int x0, .int x1] n S Y L X :=
  ⟨_, n, S, Y, L, X, h, okC.of (k := 2) (by omega) (fun l G A adr => c_X6_field l G A adr n S Y L x0 x1 h.1.2.1 h.1.1), 1, by omega, fun l G A adr => c_X7_field l G A adr S X n x0 x1 h.1.2.1 h.1.1⟩
theorem pr_row (h : iv n S Y X) (x0 : Int32) : pr yX6_row cX6_row 3 yX7_row cX7_row 2 [.int x0] n S Y L X :=
  ⟨_, n, S, Y, L, X, h, okC.of (k := 1) (by omega) (fun l G A adr => c_X6_row l G A adr n S Y L x0 h.1.2.1 h.1.1), 1, by omega, fun l G A adr => c_X7_row l G A adr S X n x0 h.1.2.1 h.1.1⟩
theorem pr_item (h : iv n S Y X) (x0 x1 : Int32) : pr yX6_item cX6_item 4 yX7_item cX7_item 3 [.int x0, .int x1] n S Y L X :=
  ⟨_, n, S, Y, L, X, h, okC.of (k := 1) (by omega) (fun l G A adr => c_X6_item l G A adr n S Y L x0 x1 h.1.2.1 h.1.1 h.2.1.2.2.1), 1, by omega, fun l G A adr => c_X7_item l G A adr S X n x0 x1 h.1.2.1 h.1.1 h.2.1.2.2.1⟩
/-- what changes nothing that the invariant needs but the run's own numbers -/
theorem iv.to {S2 : Nat → Nat → Int32} (h : iv n S Y X) (hs : sta S S2) (hd : dI n S2) (hz : zI n S2) : iv n S2 Y X :=
  ⟨h.1.to hs, hd, hz, h.2.2.2.1, fun x hx h3 => by rw [hs 3 (by omega)] at h3 ⊢; rw [hs 1 (by omega)]; exact h.2.2.2.2.1 x hx h3, h.2.2.2.2.2⟩
theorem ag1_sta {x : Nat} : sta S (sp_ag1 S x) := fun k hk => by
  unfold sp_ag1
  rw [sp_set_ne (by omega), sp_set_ne (by omega), sp_set_ne (by omega), sp_set_ne (by omega), m2_ne (by omega), m2_ne (by omega)]
theorem ag1_zk {x : Nat} (hx : x < n) : zk n S (sp_ag1 S x) := by
  unfold sp_ag1
  exact (((((zk_m2 (by unfold zo; omega)).tr (zk_m2 (by unfold zo; omega))).tr (set_zk hx (by omega))).tr (set_zk hx (by omega))).tr (set_zk hx (by omega))).tr (set_zk hx (by omega))
theorem ag1_dI {x : Nat} (h : dI n S) : dI n (sp_ag1 S x) := by
  have e : ∀ k, k ≠ 6 → sp_ag1 S x k = m2 (m2 S 12 x (nI 0)) 8 x (nI 0) k := fun k hk => by
    unfold sp_ag1
    rw [sp_set_ne hk, sp_set_ne hk, sp_set_ne hk, sp_set_ne hk]
  refine ⟨?_, ?_, fun y hy => ?_, fun y hy => ?_⟩
  · rw [e 13 (by decide), m2_nk (by decide), m2_nk (by decide)]; exact h.1
  · rw [e 17 (by decide), m2_nk (by decide), m2_nk (by decide)]; exact h.2.1
  · rw [e 8 (by decide), m2e]
    by_cases c : y = x
    · rw [if_pos ⟨rfl, c⟩]; exact ⟨0, by omega, rfl⟩
    · rw [if_neg (fun q => c q.2), m2_nk (by decide)]; exact h.2.2.1 y hy
  · rw [e 12 (by decide), m2_nk (by decide), m2e]
    by_cases c : y = x
    · rw [if_pos ⟨rfl, c⟩]; exact ⟨0, by omega, rfl⟩
    · rw [if_neg (fun q => c q.2)]; exact h.2.2.2 y hy
theorem agS_all (hd : dI n S) : ∀ k, k ≤ n → sta S (sp_agS S k) ∧ zk n S (sp_agS S k) ∧ dI n (sp_agS S k) := by
  intro k
  induction k with
  | zero => intro _; exact ⟨sta.rf, zk.rf, hd⟩
  | succ k ih =>
    intro hk
    obtain ⟨a, b, c⟩ := ih (by omega)
    exact ⟨a.tr ag1_sta, b.tr (ag1_zk (by omega)), ag1_dI c⟩
theorem pr_again (h : iv n S Y X) : pr yX6_again cX6_again 3 yX7_again cX7_again 4 [] n S Y L X := by
  obtain ⟨a, b, c⟩ := agS_all h.2.1 n (Nat.le_refl _)
  exact ⟨_, n, sp_agS S n, Y, L, X, h.to a c (h.2.2.1.to b), okC.of (k := 3) (by omega) (fun l G A adr => c_X6_again l G A adr n S Y L h.1.2.1 h.1.1), 1, by omega, fun l G A adr => c_X7_again l G A adr S X n h.1.2.1 h.1.1⟩
theorem okA_of (hs : sI n S) (hz : zI n S) : okA S := by
  have hn := hs.1
  intro mm hmm
  obtain ⟨ac, h10, hac⟩ := hs.2.2.2.2.2.2.1 mm hmm
  refine ⟨ac, h10, hac, fun i hi => ?_⟩
  by_cases c : mm < 4 * n
  · have hok := hs.2.2.2.2.2.2.2 mm i c (by rw [hac, nI_clamp (by omega)]; exact hi)
    obtain ⟨so, h12, hso, hv⟩ := act_so hok
    refine ⟨so, h12, hso, fun c1 c3 => act_bc hok hn hso h12 hv c1 c3, fun c7 => ?_⟩
    obtain ⟨z, hzz, hze⟩ := act_z7 hok hso h12 (Or.inl c7)
    subst c7
    obtain ⟨g, hg, hge⟩ := are_7 hv
    exact ⟨z, g, by omega, hg, hze, hge⟩
  · exfalso
    have := (hz.2.1 mm (by omega)).2.2
    rw [hac] at this
    have e : ac = 0 := (nI_eq (by omega) (by omega)).mp this
    omega
theorem iv.link {Y2 X2 : Nat → Nat → Int32} (h : iv n S Y X) (hy : yI n Y2) (h0 : Y2 0 = Y 0) (h1 : Y2 1 = Y 1) (hx : X2 20 0 = X 20 0) : iv n S Y2 X2 :=
  ⟨h.1, h.2.1, h.2.2.1, hy, h.2.2.2.2.1, by rw [hx, h0, h1]; exact h.2.2.2.2.2⟩
theorem mw_20 {x : Nat} : mw_X S X x 20 = X 20 := by unfold mw_X; rw [m2_ne (by decide), m2_ne (by decide)]
theorem ma1_20 {mm i : Nat} : ma_1 S X mm i 20 = X 20 := by
  unfold ma_1
  split
  · rw [m2_ne (by decide), m2_ne (by decide)]
  · split
    · rw [m2_ne (by decide)]
    · split
      · rw [m2_ne (by decide)]
      · rfl
theorem maX_20 {mm : Nat} : ∀ k, ma_X S X mm k 20 = X 20 := by
  intro k
  induction k with
  | zero => rfl
  | succ k ih => rw [ma_X, ma1_20, ih]
theorem mtz_20 : ∀ k, mt_z S X k 20 = X 20 := by
  intro k
  induction k with
  | zero => rfl
  | succ k ih =>
    rw [mt_z]
    split
    · rw [mw_20, ih]
    · exact ih
theorem mtm_20 : ∀ k, mt_m S X k 20 = X 20 := by
  intro k
  induction k with
  | zero => rfl
  | succ k ih =>
    rw [mt_m]
    split
    · exact ih
    · rw [maX_20, ih]
theorem mtt_20 : ∀ t, mt_t S n X t 20 = X 20 := by
  intro t
  induction t with
  | zero => rfl
  | succ t ih => rw [mt_t, my_1, mtm_20, mtz_20, ih]
theorem mz_20 : ∀ k, mz X k 20 = X 20 := by
  intro k
  induction k with
  | zero => rfl
  | succ k ih => rw [mz, m2_ne (by decide), ih]
theorem my0_20 {x q : Nat} : my0 X x q 20 = X 20 := by unfold my0; rw [m2_ne (by decide), m2_ne (by decide), mz_20]
theorem pr_may (h : iv n S Y X) (x0 x1 : Int32) : pr yX6_may cX6_may 4 yX7_may cX7_may 5 [.int x0, .int x1] n S Y L X := by
  have hs := h.1
  by_cases c : sp_has (S 0 0) x0 = 0
  · exact ⟨-2, n, S, Y, L, X, h, okC.of (k := 20) (by omega) (fun l G A adr => c_X6_mayU l G A adr n S Y L x0 x1 hs c), 2, by omega, fun l G A adr => c_X7_mayU l G A adr S X n x0 x1 hs.2.1 hs.1 c⟩
  obtain ⟨x, hx, rfl⟩ := has_yes hs.2.1 hs.1 c
  by_cases d : sp_isF x1 = 0
  · have d2 : x1 < 0 ∨ nI 3 < x1 := by
      unfold sp_isF at d
      by_cases e1 : x1 < 0
      · exact Or.inl e1
      · rw [if_neg e1] at d
        by_cases e2 : nI 4 ≤ x1
        · refine Or.inr ?_
          rw [Int32.le_iff_toInt_le] at e2
          rw [Int32.lt_iff_toInt_lt]
          have a1 : (nI 4).toInt = 4 := rfl
          have a2 : (nI 3).toInt = 3 := rfl
          omega
        · rw [if_neg e2] at d; exact absurd d (by decide)
    exact ⟨-3, n, S, Y, L, X, h, okC.of (k := 20) (by omega) (fun l G A adr => c_X6_mayO l G A adr n S Y L x x1 hs hx d), 2, by omega, fun l G A adr => c_X7_mayO l G A adr S X n (nI x) x1 hs.2.1 hs.1 c d2⟩
  obtain ⟨q, hq, rfl⟩ := isF_yes d
  obtain ⟨-, -, -, -, -, hy, hk⟩ := may_cls (st := (Y, L)) hs hx hq h.2.2.2.1
  refine ⟨_, n, S, _, _, mt_t S n (my0 X x q) 60, h.link hy (hk 0 (Or.inl rfl)) (hk 1 (Or.inr rfl)) (by rw [mtt_20, my0_20]), okC.of (k := 20) (by omega) (fun l G A adr => c_X6_mayK l G A adr n S Y L x q hs hx hq), 2, by omega, fun l G A adr => ?_⟩
  rw [← may_eq (X := X) hs hx hq h.2.2.2.1]
  exact c_X7_mayK l G A adr S X n x q hs.2.1 hs.1 hx (by omega) hs.2.2.1 (okA_of hs h.2.2.1)
theorem pr_ahead (h : iv n S Y X) (x0 x1 : Int32) : pr yX6_ahead cX6_ahead 5 yX7_ahead cX7_ahead 5 [.int x0, .int x1] n S Y L X := by
  have hs := h.1
  by_cases c : sp_has (S 0 0) x0 = 0
  · by_cases d : sp_has (S 0 0) x1 = 0
    · exact ⟨-2, n, S, Y, L, X, h, okC.of (k := 20) (by omega) (fun l G A adr => c_X6_aheadNN l G A adr n S Y L x0 x1 hs c d), 1, by omega, fun l G A adr => c_X7_aheadU l G A adr S X n x0 x1 hs.2.1 hs.1 (Or.inl c)⟩
    · obtain ⟨y, hy, rfl⟩ := has_yes hs.2.1 hs.1 d
      exact ⟨-2, n, S, Y, L, X, h, okC.of (k := 20) (by omega) (fun l G A adr => c_X6_aheadNY l G A adr n S Y L x0 y hs c hy), 1, by omega, fun l G A adr => c_X7_aheadU l G A adr S X n x0 (nI y) hs.2.1 hs.1 (Or.inl c)⟩
  obtain ⟨x, hx, rfl⟩ := has_yes hs.2.1 hs.1 c
  by_cases d : sp_has (S 0 0) x1 = 0
  · exact ⟨-2, n, S, Y, L, X, h, okC.of (k := 20) (by omega) (fun l G A adr => c_X6_aheadYN l G A adr n S Y L x x1 hs hx d), 1, by omega, fun l G A adr => c_X7_aheadU l G A adr S X n (nI x) x1 hs.2.1 hs.1 (Or.inr d)⟩
  obtain ⟨y, hy, rfl⟩ := has_yes hs.2.1 hs.1 d
  have hn := hs.1
  by_cases e : x = y
  · subst e
    by_cases f : S 1 x = 0
    · refine ⟨nI 0, n, S, Y, L, m2 X 32 0 (ahX S (x + 1) x), h.link h.2.2.2.1 rfl rfl (m2_nk (by decide)), okC.of (k := 20) (by omega) (fun l G A adr => c_X6_aheadE l G A adr n S Y L x hs hx), 1, by omega, fun l G A adr => ?_⟩
      rw [← ahead_E hs hx]
      exact c_X7_aheadK l G A adr S X n x x hs.2.1 hs.1 hx hx f hs.2.2.1 hs.2.2.2.2.1
    · refine ⟨nI 0, n, S, Y, L, X, h, okC.of (k := 20) (by omega) (fun l G A adr => c_X6_aheadE l G A adr n S Y L x hs hx), 1, by omega, fun l G A adr => ?_⟩
      have h2 := c_X7_aheadF l G A adr S X n x x hs.2.1 hs.1 hx hx f
      rw [ahead_F (by omega)] at h2
      exact h2
  obtain ⟨-, -, -, hy2, hk⟩ := st_cls (st := (Y, L)) hs hx h.2.2.2.1
  by_cases f : S 1 x = 0
  · refine ⟨_, n, S, _, _, m2 X 32 0 (ahX S (x + 1) x), h.link hy2 (hk 0 (Or.inl rfl)) (hk 1 (Or.inr rfl)) (m2_nk (by decide)), okC.of (k := 20) (by omega) (fun l G A adr => c_X6_aheadK l G A adr n S Y L x y hs hx hy e), 1, by omega, fun l G A adr => ?_⟩
    rw [ahead_K (st := (Y, L)) hs h.2.2.2.2.1 hx hy e f h.2.2.2.1]
    exact c_X7_aheadK l G A adr S X n x y hs.2.1 hs.1 hx hy f hs.2.2.1 hs.2.2.2.2.1
  · refine ⟨_, n, S, _, _, X, h.link hy2 (hk 0 (Or.inl rfl)) (hk 1 (Or.inr rfl)) rfl, okC.of (k := 20) (by omega) (fun l G A adr => c_X6_aheadK l G A adr n S Y L x y hs hx hy e), 1, by omega, fun l G A adr => ?_⟩
    rw [ahead_FC (st := (Y, L)) hs hx hy e f h.2.2.2.1]
    have h2 := c_X7_aheadF l G A adr S X n x y hs.2.1 hs.1 hx hy f
    rw [ahead_F (by omega)] at h2
    exact h2
theorem pr_run (h : iv n S Y X) (x0 x1 : Int32) : pr yX6_run cX6_run 4 yX7_run cX7_run 3 [.int x0, .int x1] n S Y L X := by
  have hs := h.1
  have hd := h.2.1
  by_cases c : sp_has (S 0 0) x0 = 0
  · exact ⟨-2, n, S, Y, L, X, h, okC.of (k := 535) (by omega) (fun l G A adr => c_X6_runU l G A adr n S Y L x0 x1 hs hd c), 6, by omega, fun l G A adr => c_X7_runU l G A adr S X n x0 x1 hs.2.1 hs.1 c⟩
  obtain ⟨x, hx, rfl⟩ := has_yes hs.2.1 hs.1 c
  by_cases d : sp_isC x1 = 0
  · exact ⟨-3, n, S, Y, L, X, h, okC.of (k := 535) (by omega) (fun l G A adr => c_X6_runO l G A adr n S Y L x x1 hs hd hx d), 6, by omega, fun l G A adr => c_X7_runO l G A adr S X n (nI x) x1 hs.2.1 hs.1 c (isC_no d)⟩
  obtain ⟨q, hq1, hq3, rfl⟩ := isC_yes d
  obtain ⟨k, X9, hrun, h22, h31, h7, hY, hsta, hdI⟩ := run_sim (Y := Y) (X := X) hs hd hx hq1 hq3
  have hzk := ex2_zk (Y := Y) hs hd hx hq3
  refine ⟨(ex2 S Y x q).1, n, (ex2 S Y x q).2.1, m2 (ex2 S Y x q).2.2 0 0 (ex2 S Y x q).1, L, m2 X9 20 0 (if X9 31 0 = nI 7 then X9 19 0 else -1), ?_, okC.of (k := 535) (by omega) (fun l G A adr => c_X6_runK l G A adr n S Y L x q hs hd hx hq1 hq3), 6, by omega, fun l G A adr => ?_⟩
  · have h1 := h.to hsta hdI (h.2.2.1.to hzk)
    refine ⟨h1.1, h1.2.1, h1.2.2.1, fun i => ?_, h1.2.2.2.2.1, ?_⟩
    · have e : m2 (ex2 S Y x q).2.2 0 0 (ex2 S Y x q).1 4 i = Y 4 i := by
        rw [m2_nk (by decide), hY 4 (by decide)]
        unfold exY
        rw [m2_nk (by decide), m2_nk (by decide)]
      rw [e]; exact h.2.2.2.1 i
    · rw [m2_at, m2_at, m2_nk (by decide), h31]
      by_cases e : (ex2 S Y x q).1 = nI 7
      · rw [if_pos e, if_pos e, h7 e]
      · rw [if_neg e, if_neg e]
  · rw [← h31]
    exact c_X7_runK l G A adr S X n x q k _ X9 hs.2.1 hs.1 hx hq1 hq3 hrun h22
theorem iv.eq {S2 : Nat → Nat → Int32} (h : iv n S Y X) (e0 : S2 0 = S 0) (e1 : S2 1 = S 1) (e3 : S2 3 = S 3) (e4 : S2 4 = S 4) (e5 : S2 5 = S 5) (e10 : S2 10 = S 10) (e11 : S2 11 = S 11) (e8 : S2 8 = S 8) (e12 : S2 12 = S 12) (e13 : S2 13 = S 13) (e17 : S2 17 = S 17) (hz : zk n S S2) : iv n S2 Y X := by
  obtain ⟨h1, h2, h3, h4, h5, h6⟩ := h
  refine ⟨?_, ?_, h3.to hz, h4, ?_, h6⟩
  · unfold sI okAct at h1 ⊢
    rw [e0, e1, e3, e4, e5, e10, e11]
    exact h1
  · unfold dI at h2 ⊢
    rw [e13, e17, e8, e12]
    exact h2
  · unfold pI at h5 ⊢
    rw [e3, e1]
    exact h5
theorem pr_constant (h : iv n S Y X) (x0 x1 x2 : Int32) : pr yX6_constant cX6_constant 5 yX7_constant cX7_constant 4 [.int x0, .int x1, .int x2] n S Y L X := by
  have hs := h.1
  refine ⟨_, n, sp_constS S x0 x1 x2, Y, L, X, ?_, okC.of (k := 2) (by omega) (fun l G A adr => c_X6_constant l G A adr n S Y L x0 x1 x2 hs.2.1 hs.1), 1, by omega, fun l G A adr => c_X7_constant l G A adr S X n x0 x1 x2 hs.2.1 hs.1⟩
  unfold sp_constS
  by_cases e : sp_constE S x0 x1 = nI 1
  · rw [if_pos e]
    unfold sp_constE at e
    by_cases c : sp_has (S 0 0) x0 = 0
    · rw [if_pos c] at e; exact absurd e (by decide)
    rw [if_neg c] at e
    by_cases d : sp_isF x1 = 0
    · rw [if_pos d] at e; exact absurd e (by decide)
    obtain ⟨x, hx, rfl⟩ := has_yes hs.2.1 hs.1 c
    obtain ⟨q, hq, rfl⟩ := isF_yes d
    have hn := hs.1
    rw [nI_clamp (by omega), nI_clamp (by omega)]
    have e7 : ∀ k, k ≠ 7 → k ≠ 6 → m2 (m2 S 7 (4 * x + q) (nI 1)) 6 (4 * x + q) x2 k = S k := fun k h1 h2 => by rw [m2_ne h2, m2_ne h1]
    have hzk : zk n S (m2 (m2 S 7 (4 * x + q) (nI 1)) 6 (4 * x + q) x2) := (zk_m2 (by unfold zo; omega)).tr (zk_m2 (by unfold zo; omega))
    generalize m2 (m2 S 7 (4 * x + q) (nI 1)) 6 (4 * x + q) x2 = T at e7 hzk
    exact h.eq (e7 0 (by decide) (by decide)) (e7 1 (by decide) (by decide)) (e7 3 (by decide) (by decide)) (e7 4 (by decide) (by decide)) (e7 5 (by decide) (by decide)) (e7 10 (by decide) (by decide)) (e7 11 (by decide) (by decide)) (e7 8 (by decide) (by decide)) (e7 12 (by decide) (by decide)) (e7 13 (by decide) (by decide)) (e7 17 (by decide) (by decide)) hzk
  · rw [if_neg e]; exact h
end P1
