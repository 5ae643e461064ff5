/-! WHAT MAY BE STARTED: the reference's set is the least closed one -/
def FRk (S : Nat → Nat → Int32) : Nat → Nat → Nat → Prop
  | 0, z, y => y = z
  | k + 1, z, y => ∃ i, i < (S 4 z).toNatClampNeg ∧ FRk S k (S 5 (3 * z + i)).toNatClampNeg y
/-- y is z, or a face of it, or of one of these .. -/
def FR (S : Nat → Nat → Int32) (z y : Nat) : Prop := ∃ k, FRk S k z y
theorem FR_rf {S : Nat → Nat → Int32} {z : Nat} : FR S z z := ⟨0, rfl⟩
theorem FR_st {S : Nat → Nat → Int32} {z y i : Nat} (hi : i < (S 4 z).toNatClampNeg) (h : FR S (S 5 (3 * z + i)).toNatClampNeg y) : FR S z y := by
  obtain ⟨k, h⟩ := h
  exact ⟨k + 1, i, hi, h⟩
theorem FR_un {S : Nat → Nat → Int32} {z y : Nat} (h : FR S z y) : y = z ∨ ∃ i, i < (S 4 z).toNatClampNeg ∧ FR S (S 5 (3 * z + i)).toNatClampNeg y := by
  obtain ⟨k, h⟩ := h
  cases k with
  | zero => exact Or.inl h
  | succ k =>
    obtain ⟨i, hi, h⟩ := h
    exact Or.inr ⟨i, hi, k, h⟩
theorem sI_fc1 {n : Nat} {S : Nat → Nat → Int32} (h : sI n S) {x i : Nat} (hx : x < n) (hi : i < (S 4 x).toNatClampNeg) : ∃ y, y < x ∧ S 5 (3 * x + i) = nI y ∧ ¬ S 1 y = 0 ∧ (S 5 (3 * x + i)).toNatClampNeg = y := by
  obtain ⟨y, hy, he, h1⟩ := h.2.2.2.1 x i hx hi
  have h12 := h.1
  exact ⟨y, hy, he, h1, by rw [he, nI_clamp (by omega)]⟩
theorem FRk_lt {n : Nat} {S : Nat → Nat → Int32} (hs : sI n S) : ∀ k z y, z < n → FRk S k z y → y = z ∨ (y < z ∧ ¬ S 1 y = 0) := by
  intro k
  induction k with
  | zero => intro z y _ h; exact Or.inl h
  | succ k ih =>
    intro z y hz h
    obtain ⟨i, hi, h⟩ := h
    obtain ⟨f, hf, -, h1, e⟩ := sI_fc1 hs hz hi
    rw [e] at h
    rcases ih f y (by omega) h with q | ⟨q1, q2⟩
    · subst q; exact Or.inr ⟨hf, h1⟩
    · exact Or.inr ⟨by omega, q2⟩
theorem FR_lt {n : Nat} {S : Nat → Nat → Int32} (hs : sI n S) {z y : Nat} (hz : z < n) (h : FR S z y) : y = z ∨ (y < z ∧ ¬ S 1 y = 0) := by
  obtain ⟨k, h⟩ := h
  exact FRk_lt hs k z y hz h
theorem mlfs_bt {n : Nat} {S : Nat → Nat → Int32} (hs : sI n S) {z : Nat} (hz : z < n) (met : Int32) (y : Nat) : ∀ k, k ≤ (S 4 z).toNatClampNeg → (bt (ml_fs S z met k) y = true ↔ bt met y = true ∨ ∃ i, i < k ∧ y = (S 5 (3 * z + i)).toNatClampNeg) := by
  have hn := hs.1
  intro k
  induction k with
  | zero => intro _; exact ⟨fun h => Or.inl h, fun h => by rcases h with h | ⟨i, hi, -⟩; exact h; omega⟩
  | succ k ih =>
    intro hk
    obtain ⟨f, hf, he, -, e⟩ := sI_fc1 hs hz (show k < (S 4 z).toNatClampNeg by omega)
    rw [ml_fs, he, show nI 1 <<< (nI f &&& 31) = b1 f from rfl, b_add (by omega), ih (by omega)]
    constructor
    · rintro ((h | ⟨i, hi, h⟩) | h)
      · exact Or.inl h
      · exact Or.inr ⟨i, by omega, h⟩
      · exact Or.inr ⟨k, by omega, by rw [e]; exact h⟩
    · rintro (h | ⟨i, hi, h⟩)
      · exact Or.inl (Or.inl h)
      · by_cases c : i = k
        · subst c; exact Or.inr (by rw [h, e])
        · exact Or.inl (Or.inr ⟨i, by omega, h⟩)
theorem mlw_bt {S : Nat → Nat → Int32} {x f y : Nat} {w : Int32} (hf : f < 32) : bt (ml_w S x f w) y = true ↔ bt w y = true ∨ (y = f ∧ ¬ f = x ∧ ¬ S 2 f = 0) := by
  unfold ml_w
  by_cases c1 : f = x
  · rw [if_pos c1, b_or0]
    exact ⟨fun h => Or.inl h, fun h => h.elim id (fun q => absurd c1 q.2.1)⟩
  · rw [if_neg c1]
    by_cases c2 : S 2 f = 0
    · rw [if_pos c2, b_or0]
      exact ⟨fun h => Or.inl h, fun h => h.elim id (fun q => absurd c2 q.2.2)⟩
    · rw [if_neg c2, b_add hf]
      exact ⟨fun h => h.elim Or.inl (fun q => Or.inr ⟨q, c1, c2⟩), fun h => h.elim Or.inl (fun q => Or.inr q.1)⟩
theorem ml_bt {n : Nat} {S : Nat → Nat → Int32} (hs : sI n S) {x y : Nat} : ∀ (f : Nat) (met w : Int32), f ≤ n → (bt (ml S x f met w) y = true ↔ bt w y = true ∨ (¬ y = x ∧ ¬ S 2 y = 0 ∧ ∃ z, z < f ∧ bt met z = true ∧ FR S z y)) := by
  have hn := hs.1
  intro f
  induction f with
  | zero => intro met w _; exact ⟨fun h => Or.inl h, fun h => by rcases h with h | ⟨-, -, z, hz, -⟩; exact h; omega⟩
  | succ f ih =>
    intro met w hf
    by_cases c : bt met f = true
    · rw [ml_t ((bz_bt (by omega)).mpr c), ih _ _ (by omega), mlw_bt (by omega)]
      constructor
      · rintro ((h | ⟨h1, h2, h3⟩) | ⟨h1, h2, z, hz, hm, hr⟩)
        · exact Or.inl h
        · subst h1; exact Or.inr ⟨h2, h3, y, by omega, c, FR_rf⟩
        · refine Or.inr ⟨h1, h2, ?_⟩
          rcases (mlfs_bt hs (by omega) met z _ (Nat.le_refl _)).mp hm with q | ⟨i, hi, q⟩
          · exact ⟨z, by omega, q, hr⟩
          · exact ⟨f, by omega, c, FR_st hi (by rw [← q]; exact hr)⟩
      · rintro (h | ⟨h1, h2, z, hz, hm, hr⟩)
        · exact Or.inl (Or.inl h)
        · by_cases e : z = f
          · subst e
            rcases FR_un hr with q | ⟨i, hi, q⟩
            · subst q; exact Or.inl (Or.inr ⟨rfl, h1, h2⟩)
            · obtain ⟨g, hg, -, -, e⟩ := sI_fc1 hs (show z < n by omega) hi
              exact Or.inr ⟨h1, h2, g, by omega, (mlfs_bt hs (by omega) met g _ (Nat.le_refl _)).mpr (Or.inr ⟨i, hi, e.symm⟩), by rw [← e]; exact q⟩
          · exact Or.inr ⟨h1, h2, z, by omega, (mlfs_bt hs (by omega) met z _ (Nat.le_refl _)).mpr (Or.inl hm), hr⟩
    · rw [ml_f (fun q => c ((bz_bt (by omega)).mp q)), ih _ _ (by omega)]
      constructor
      · rintro (h | ⟨h1, h2, z, hz, hm, hr⟩)
        · exact Or.inl h
        · exact Or.inr ⟨h1, h2, z, by omega, hm, hr⟩
      · rintro (h | ⟨h1, h2, z, hz, hm, hr⟩)
        · exact Or.inl h
        · exact Or.inr ⟨h1, h2, z, by have : z ≠ f := fun e => c (by rw [← e]; exact hm)
                                      omega, hm, hr⟩
theorem ml_x {n : Nat} {S : Nat → Nat → Int32} (hs : sI n S) {x y : Nat} (hx : x < n) (w : Int32) : bt (ml S x (x + 1) (b1 x) w) y = true ↔ bt w y = true ∨ (¬ y = x ∧ ¬ S 2 y = 0 ∧ FR S x y) := by
  have hn := hs.1
  rw [ml_bt hs (x + 1) (b1 x) w (by omega)]
  constructor
  · rintro (h | ⟨h1, h2, z, hz, hm, hr⟩)
    · exact Or.inl h
    · rw [b1_bt (by omega)] at hm
      have e : z = x := by simpa using hm
      subst e
      exact Or.inr ⟨h1, h2, hr⟩
  · rintro (h | ⟨h1, h2, hr⟩)
    · exact Or.inl h
    · exact Or.inr ⟨h1, h2, x, by omega, by rw [b1_bt (by omega)]; simp, hr⟩
theorem mw_bt {n : Nat} {S : Nat → Nat → Int32} (hs : sI n S) {x y : Nat} (hx : x < n) (w : Int32) : bt (mw_w S x w) y = true ↔ bt w y = true ∨ y = x ∨ (S 1 x = 0 ∧ ((¬ S 3 x = -1 ∧ y = (S 3 x).toNatClampNeg) ∨ (¬ y = x ∧ ¬ S 2 y = 0 ∧ FR S x y))) := by
  have hn := hs.1
  unfold mw_w
  by_cases c : S 1 x = 0
  · rw [if_pos c, ml_x hs hx]
    by_cases d : S 3 x = -1
    · rw [if_pos d, b_or0, b_add (by omega)]
      constructor
      · rintro ((h | h) | h)
        · exact Or.inl h
        · exact Or.inr (Or.inl h)
        · exact Or.inr (Or.inr ⟨c, Or.inr h⟩)
      · rintro (h | h | ⟨-, h | h⟩)
        · exact Or.inl (Or.inl h)
        · exact Or.inl (Or.inr h)
        · exact absurd d h.1
        · exact Or.inr h
    · obtain ⟨hp, he⟩ := sI_par hs hx d
      have e : nI 1 <<< (S 3 x &&& 31) = b1 (S 3 x).toNatClampNeg := by
        show _ = nI 1 <<< (nI (S 3 x).toNatClampNeg &&& 31)
        rw [← he]
      rw [if_neg d, e, b_add (by omega), b_add (by omega)]
      constructor
      · rintro (((h | h) | h) | h)
        · exact Or.inl h
        · exact Or.inr (Or.inl h)
        · exact Or.inr (Or.inr ⟨c, Or.inl ⟨d, h⟩⟩)
        · exact Or.inr (Or.inr ⟨c, Or.inr h⟩)
      · rintro (h | h | ⟨-, h | h⟩)
        · exact Or.inl (Or.inl (Or.inl h))
        · exact Or.inl (Or.inl (Or.inr h))
        · exact Or.inl (Or.inr h.2)
        · exact Or.inr h
  · rw [if_neg c, b_add (by omega)]
    constructor
    · rintro (h | h)
      · exact Or.inl h
      · exact Or.inr (Or.inl h)
    · rintro (h | h | ⟨h, -⟩)
      · exact Or.inl h
      · exact Or.inr h
      · exact absurd h c
/-- a set of kinds and one of methods, closed -/
def cl (n : Nat) (S : Nat → Nat → Int32) (P M : Nat → Prop) : Prop := (∀ z, P z → z < n) ∧ (∀ m, M m → m < 4 * n) ∧ (∀ z, P z → M (4 * z)) ∧ (∀ z, P z → S 1 z = 0 → ¬ S 3 z = -1 → P (S 3 z).toNatClampNeg) ∧ ∀ z y, P z → S 1 z = 0 → ¬ y = z → ¬ S 2 y = 0 → FR S z y → P y
def cl4 (n : Nat) (S : Nat → Nat → Int32) (P M : Nat → Prop) : Prop := ∀ x q i, x < n → q < 4 → M (4 * x + q) → i < (S 10 (4 * x + q)).toNatClampNeg → (¬ evW S x q i = -1 → P (evW S x q i).toNatClampNeg) ∧ ((S 11 (aT x q i)).toNatClampNeg = 7 → M (4 * (S 11 (aT x q i + 1)).toNatClampNeg + (S 11 (aT x q i + 2)).toNatClampNeg))
theorem cl_all {n : Nat} {S : Nat → Nat → Int32} (hs : sI n S) : cl n S (fun z => z < n) (fun m => m < 4 * n) := by
  refine ⟨fun z h => h, fun m h => h, fun z h => by show 4 * z < 4 * n; omega, fun z h _ hp => by have := (sI_par hs h hp).1; show _ < n; omega, fun z y h _ _ _ hr => ?_⟩
  rcases FR_lt hs h hr with q | ⟨q, -⟩
  · subst q; exact h
  · show y < n; omega
theorem act_7m {n x q i : Nat} {S : Nat → Nat → Int32} (hs : sI n S) (hx : x < n) (hq : q < 4) (hi : i < (S 10 (4 * x + q)).toNatClampNeg) (h7 : (S 11 (aT x q i)).toNatClampNeg = 7) : 4 * (S 11 (aT x q i + 1)).toNatClampNeg + (S 11 (aT x q i + 2)).toNatClampNeg < 4 * n := by
  have hn := hs.1
  have hok := sI_act hs hx hq hi
  obtain ⟨so, h12, hso, hv⟩ := act_so hok
  have e : so = 7 := by rw [hso, nI_clamp (by omega)] at h7; exact h7
  subst e
  obtain ⟨z, hz, hze⟩ := act_z7 hok hso (by omega) (by omega)
  obtain ⟨g, hg, hge⟩ := are_7 hv
  rw [hze, hge, nI_clamp (by omega), nI_clamp (by omega)]
  omega
theorem cl4_all {n : Nat} {S : Nat → Nat → Int32} (hs : sI n S) : cl4 n S (fun z => z < n) (fun m => m < 4 * n) := by
  intro x q i hx hq _ hi
  exact ⟨fun hw => (evW_z (sI_act hs hx hq hi) hs.1 hw).1, fun h7 => act_7m hs hx hq hi h7⟩
def leX (X X2 : Nat → Nat → Int32) : Prop := (∀ z, bt (X 32 0) z = true → bt (X2 32 0) z = true) ∧ ∀ m, m < 48 → ¬ X 33 m = 0 → ¬ X2 33 m = 0
theorem leX.rf {X : Nat → Nat → Int32} : leX X X := ⟨fun _ h => h, fun _ _ h => h⟩
theorem leX.tr {X X2 X3 : Nat → Nat → Int32} (h : leX X X2) (h2 : leX X2 X3) : leX X X3 := ⟨fun z q => h2.1 z (h.1 z q), fun m hm q => h2.2 m hm (h.2 m hm q)⟩
def sbX (P M : Nat → Prop) (X : Nat → Nat → Int32) : Prop := (∀ z, bt (X 32 0) z = true → P z) ∧ ∀ m, m < 48 → ¬ X 33 m = 0 → M m
theorem n1_ne : ¬ nI 1 = 0 := by decide
theorem mwX_p {n : Nat} {S X : Nat → Nat → Int32} (hs : sI n S) {x y : Nat} (hx : x < n) : bt (mw_X S X x 32 0) y = true ↔ bt (X 32 0) y = true ∨ y = x ∨ (S 1 x = 0 ∧ ((¬ S 3 x = -1 ∧ y = (S 3 x).toNatClampNeg) ∨ (¬ y = x ∧ ¬ S 2 y = 0 ∧ FR S x y))) := by
  unfold mw_X
  rw [m2_at, mw_bt hs hx]
theorem mwX_m {S X : Nat → Nat → Int32} {x m : Nat} : ¬ mw_X S X x 33 m = 0 ↔ ¬ X 33 m = 0 ∨ m = 4 * x := by
  unfold mw_X
  rw [m2_nk (by decide), m2e]
  by_cases c : m = 4 * x
  · rw [if_pos ⟨rfl, c⟩]
    exact ⟨fun _ => Or.inr c, fun _ => n1_ne⟩
  · rw [if_neg (fun h => c h.2)]
    exact ⟨Or.inl, fun h => h.elim id (fun q => absurd q c)⟩
theorem mwX_le {n : Nat} {S X : Nat → Nat → Int32} (hs : sI n S) {x : Nat} (hx : x < n) : leX X (mw_X S X x) := ⟨fun z h => (mwX_p hs hx).mpr (Or.inl h), fun m _ h => mwX_m.mpr (Or.inl h)⟩
theorem mwX_sb {n : Nat} {P M : Nat → Prop} {S X : Nat → Nat → Int32} (hs : sI n S) {x : Nat} (hc : cl n S P M) (hx : P x) (h : sbX P M X) : sbX P M (mw_X S X x) := by
  refine ⟨fun z hz => ?_, fun m hm q => ?_⟩
  · rcases (mwX_p hs (hc.1 x hx)).mp hz with q | q | ⟨q1, ⟨q2, q3⟩ | ⟨q2, q3, q4⟩⟩
    · exact h.1 z q
    · rw [q]; exact hx
    · rw [q3]; exact hc.2.2.2.1 x hx q1 q2
    · exact hc.2.2.2.2 x z hx q1 q2 q3 q4
  · rcases mwX_m.mp q with q | q
    · exact h.2 m hm q
    · rw [q]; exact hc.2.2.1 x hx
theorem ma1_p {n x q i : Nat} {S X : Nat → Nat → Int32} (hs : sI n S) (hx : x < n) (hq : q < 4) (hi : i < (S 10 (4 * x + q)).toNatClampNeg) (y : Nat) : bt (ma_1 S X (4 * x + q) i 32 0) y = true ↔ bt (X 32 0) y = true ∨ (¬ evW S x q i = -1 ∧ y = (evW S x q i).toNatClampNeg) := by
  have hn := hs.1
  have hok := sI_act hs hx hq hi
  obtain ⟨so, h12, hso, hv⟩ := act_so hok
  have hsc : (S 11 (aT x q i)).toNatClampNeg = so := by rw [hso, nI_clamp (by omega)]
  have add : ∀ z (v w : Int32), z < n → evW S x q i = nI z → v = nI z → (bt (w ||| (nI 1 <<< (v &&& 31))) y = true ↔ bt w y = true ∨ (¬ evW S x q i = -1 ∧ y = (evW S x q i).toNatClampNeg)) := by
    intro z v w hz he hv
    rw [he, hv, show nI 1 <<< (nI z &&& 31) = b1 z from rfl, b_add (by omega), nI_clamp (by omega)]
    exact ⟨fun h => h.elim Or.inl (fun h => Or.inr ⟨nI_m1 (by omega), h⟩), fun h => h.elim Or.inl (fun h => Or.inr h.2)⟩
  have eaT : 40 * (4 * x + q) + 4 * i = aT x q i := rfl
  unfold ma_1
  rw [eaT]
  rw [hsc]
  by_cases c7 : so = 7
  · subst c7
    obtain ⟨z, hz, hze⟩ := act_z7 hok hso (by omega) (Or.inl rfl)
    rw [if_pos rfl, m2_nk (by decide), m2_at]
    exact add z _ _ hz ((evW_7 hso (Or.inl rfl)).trans hze) hze
  rw [if_neg c7]
  by_cases c8 : so = 8
  · subst c8
    obtain ⟨z, hz, hze⟩ := act_z7 hok hso (by omega) (Or.inr rfl)
    rw [if_pos rfl, m2_at]
    exact add z _ _ hz ((evW_7 hso (Or.inr rfl)).trans hze) hze
  rw [if_neg c8]
  have hev : evW S x q i = rf_wants S so (S 11 (aT x q i + 1)) (S 11 (aT x q i + 2)) (S 11 (aT x q i + 3)) := by unfold evW; rw [hsc]
  by_cases c1 : so < 1
  · rw [if_neg (by omega)]
    have : evW S x q i = -1 := by rw [hev, rf_wants, if_pos c1, rf_wants2, if_neg c7, if_neg c8]
    exact ⟨Or.inl, fun h => h.elim id (fun h => absurd this h.1)⟩
  by_cases c3 : 3 < so
  · rw [if_neg (by omega)]
    have : evW S x q i = -1 := by rw [hev, rf_wants, if_neg c1, if_pos c3, rf_wants2, if_neg c7, if_neg c8]
    exact ⟨Or.inl, fun h => h.elim id (fun h => absurd this h.1)⟩
  rw [rf_wants, if_neg c1, if_neg c3] at hev
  obtain ⟨z, hz, hze⟩ := act_z3 hok hso h12 (by omega) (by omega)
  by_cases ck : S 7 (4 * (S 11 (aT x q i + 2)).toNatClampNeg + (S 11 (aT x q i + 3)).toNatClampNeg) = 0
  · rw [if_pos ⟨by omega, by omega, ck⟩, m2_at]
    rw [if_pos ck] at hev
    exact add z _ _ hz (hev.trans hze) hze
  · rw [if_neg (fun h => ck h.2.2)]
    rw [if_neg ck] at hev
    exact ⟨Or.inl, fun h => h.elim id (fun h => absurd hev h.1)⟩
theorem ma1_m {x q i m : Nat} {S X : Nat → Nat → Int32} : ¬ ma_1 S X (4 * x + q) i 33 m = 0 ↔ ¬ X 33 m = 0 ∨ ((S 11 (aT x q i)).toNatClampNeg = 7 ∧ m = 4 * (S 11 (aT x q i + 1)).toNatClampNeg + (S 11 (aT x q i + 2)).toNatClampNeg) := by
  have eaT : 40 * (4 * x + q) + 4 * i = aT x q i := rfl
  unfold ma_1
  rw [eaT]
  by_cases c7 : (S 11 (aT x q i)).toNatClampNeg = 7
  · rw [if_pos c7, m2e]
    by_cases c : m = 4 * (S 11 (aT x q i + 1)).toNatClampNeg + (S 11 (aT x q i + 2)).toNatClampNeg
    · rw [if_pos ⟨rfl, c⟩]
      exact ⟨fun _ => Or.inr ⟨c7, c⟩, fun _ => n1_ne⟩
    · rw [if_neg (fun h => c h.2), m2_nk (by decide)]
      exact ⟨Or.inl, fun h => h.elim id (fun q => absurd q.2 c)⟩
  · rw [if_neg c7]
    have hr : (¬ X 33 m = 0) ↔ (¬ X 33 m = 0 ∨ ((S 11 (aT x q i)).toNatClampNeg = 7 ∧ m = 4 * (S 11 (aT x q i + 1)).toNatClampNeg + (S 11 (aT x q i + 2)).toNatClampNeg)) := ⟨Or.inl, fun h => h.elim id (fun q => absurd q.1 c7)⟩
    split
    · rw [m2_nk (by decide)]; exact hr
    · split
      · rw [m2_nk (by decide)]; exact hr
      · exact hr
theorem maX_p {n x q : Nat} {S X : Nat → Nat → Int32} (hs : sI n S) (hx : x < n) (hq : q < 4) (y : Nat) : ∀ k, k ≤ (S 10 (4 * x + q)).toNatClampNeg → (bt (ma_X S X (4 * x + q) k 32 0) y = true ↔ bt (X 32 0) y = true ∨ ∃ i, i < k ∧ ¬ evW S x q i = -1 ∧ y = (evW S x q i).toNatClampNeg) := by
  intro k
  induction k with
  | zero => intro _; exact ⟨Or.inl, fun h => by rcases h with h | ⟨i, hi, -⟩; exact h; omega⟩
  | succ k ih =>
    intro hk
    rw [ma_X, ma1_p hs hx hq (by omega), ih (by omega)]
    constructor
    · rintro ((h | ⟨i, hi, h⟩) | h)
      · exact Or.inl h
      · exact Or.inr ⟨i, by omega, h⟩
      · exact Or.inr ⟨k, by omega, h⟩
    · rintro (h | ⟨i, hi, h⟩)
      · exact Or.inl (Or.inl h)
      · by_cases c : i = k
        · subst c; exact Or.inr h
        · exact Or.inl (Or.inr ⟨i, by omega, h⟩)
theorem maX_m {x q m : Nat} {S X : Nat → Nat → Int32} : ∀ k, (¬ ma_X S X (4 * x + q) k 33 m = 0 ↔ ¬ X 33 m = 0 ∨ ∃ i, i < k ∧ (S 11 (aT x q i)).toNatClampNeg = 7 ∧ m = 4 * (S 11 (aT x q i + 1)).toNatClampNeg + (S 11 (aT x q i + 2)).toNatClampNeg) := by
  intro k
  induction k with
  | zero => exact ⟨Or.inl, fun h => by rcases h with h | ⟨i, hi, -⟩; exact h; omega⟩
  | succ k ih =>
    rw [ma_X, ma1_m, ih]
    constructor
    · rintro ((h | ⟨i, hi, h⟩) | h)
      · exact Or.inl h
      · exact Or.inr ⟨i, by omega, h⟩
      · exact Or.inr ⟨k, by omega, h⟩
    · rintro (h | ⟨i, hi, h⟩)
      · exact Or.inl (Or.inl h)
      · by_cases c : i = k
        · subst c; exact Or.inr h
        · exact Or.inl (Or.inr ⟨i, by omega, h⟩)
theorem maX_le {n x q : Nat} {S X : Nat → Nat → Int32} (hs : sI n S) (hx : x < n) (hq : q < 4) : leX X (ma_X S X (4 * x + q) (S 10 (4 * x + q)).toNatClampNeg) := ⟨fun z h => (maX_p hs hx hq z _ (Nat.le_refl _)).mpr (Or.inl h), fun m _ h => (maX_m _).mpr (Or.inl h)⟩
theorem maX_sb {n x q : Nat} {P M : Nat → Prop} {S X : Nat → Nat → Int32} (hs : sI n S) (hx : x < n) (hq : q < 4) (hc : cl4 n S P M) (hM : M (4 * x + q)) (h : sbX P M X) : sbX P M (ma_X S X (4 * x + q) (S 10 (4 * x + q)).toNatClampNeg) := by
  refine ⟨fun z hz => ?_, fun m hm r => ?_⟩
  · rcases (maX_p hs hx hq z _ (Nat.le_refl _)).mp hz with r | ⟨i, hi, h1, h2⟩
    · exact h.1 z r
    · rw [h2]; exact (hc x q i hx hq hM hi).1 h1
  · rcases (maX_m _).mp r with r | ⟨i, hi, h1, h2⟩
    · exact h.2 m hm r
    · rw [h2]; exact (hc x q i hx hq hM hi).2 h1
