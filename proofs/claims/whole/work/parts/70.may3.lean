/-! .. the class's set is the least closed one too -/
def pS (st : rST) (z : Nat) : Prop := bt (st.1 2 0) z = true
def mS (st : rST) (m : Nat) : Prop := lt st.2 m = true
def LI (n : Nat) (st : rST) : Prop := yI n st.1 ∧ ∃ sz, sz ≤ 48 ∧ st.1 3 0 = nI sz ∧ (∀ i, i < sz → ∃ mm, mm < 4 * n ∧ st.1 4 i = nI mm ∧ mS st mm) ∧ cnt (mS st) 48 = sz ∧ ∀ m, mS st m → m < 48 ∧ ∃ i, i < sz ∧ st.1 4 i = nI m
def leS (st st2 : rST) : Prop := (∀ z, pS st z → pS st2 z) ∧ (∀ m, mS st m → mS st2 m) ∧ rsz st ≤ rsz st2 ∧ (∀ i, i < rsz st → st2.1 4 i = st.1 4 i) ∧ ∀ k, k = 0 ∨ k = 1 → st2.1 k = st.1 k
theorem leS.rf {st : rST} : leS st st := ⟨fun _ h => h, fun _ h => h, Nat.le_refl _, fun _ _ => rfl, fun _ _ => rfl⟩
theorem leS.tr {st st2 st3 : rST} (h : leS st st2) (h2 : leS st2 st3) : leS st st3 := ⟨fun z q => h2.1 z (h.1 z q), fun z q => h2.2.1 z (h.2.1 z q), Nat.le_trans h.2.2.1 h2.2.2.1, fun i hi => (h2.2.2.2.1 i (Nat.lt_of_lt_of_le hi h.2.2.1)).trans (h.2.2.2.1 i hi), fun k hk => (h2.2.2.2.2 k hk).trans (h.2.2.2.2 k hk)⟩
def sbS (P M : Nat → Prop) (st : rST) : Prop := (∀ z, pS st z → P z) ∧ ∀ m, mS st m → M m
theorem list_S {n mm : Nat} {st : rST} (hn : n ≤ 12) (hL : LI n st) (hm : mm < 4 * n) : LI n (rl_list mm st) ∧ leS st (rl_list mm st) ∧ (∀ m, mS (rl_list mm st) m ↔ mS st m ∨ m = mm) ∧ ∀ z, pS (rl_list mm st) z ↔ pS st z := by
  obtain ⟨hy, sz, h1, h2, h3, h4, h5⟩ := hL
  obtain ⟨Y, L⟩ := st
  by_cases c1 : L &&& lb mm = 0
  · have c1' : ¬ mS (Y, L) mm := (and_lb (by omega)).mp c1
    by_cases c2 : 48 ≤ sz
    · exfalso
      exact c1' (cnt_all (P := mS (Y, L)) (k := 48) (by omega) mm (by omega))
    · rw [rl_3 c1 h2 h1 c2]
      have hM : ∀ m, mS (m2 (m2 Y 4 sz (nI mm)) 3 0 (nI (sz + 1)), L ||| lb mm) m ↔ mS (Y, L) m ∨ m = mm := fun m => l_add (by omega)
      have hP : ∀ z, pS (m2 (m2 Y 4 sz (nI mm)) 3 0 (nI (sz + 1)), L ||| lb mm) z ↔ pS (Y, L) z := fun z => by
        unfold pS
        show bt (m2 (m2 Y 4 sz (nI mm)) 3 0 (nI (sz + 1)) 2 0) z = true ↔ _
        rw [m2_nk (by decide), m2_nk (by decide)]
      have e4 : ∀ i, m2 (m2 Y 4 sz (nI mm)) 3 0 (nI (sz + 1)) 4 i = if i = sz then nI mm else Y 4 i := fun i => by
        rw [m2_nk (by decide), m2e]
        by_cases c : i = sz
        · rw [if_pos ⟨rfl, c⟩, if_pos c]
        · rw [if_neg (fun q => c q.2), if_neg c]
      have e3 : m2 (m2 Y 4 sz (nI mm)) 3 0 (nI (sz + 1)) 3 0 = nI (sz + 1) := m2_at
      refine ⟨⟨fun i => ?_, sz + 1, by omega, e3, fun i hi => ?_, ?_, fun m hm2 => ?_⟩, ⟨fun z q => (hP z).mpr q, fun m q => (hM m).mpr (Or.inl q), ?_, fun i hi => ?_, fun k hk => ?_⟩, hM, hP⟩
      · show m2 (m2 Y 4 sz (nI mm)) 3 0 (nI (sz + 1)) 4 i = -1 ∨ (m2 (m2 Y 4 sz (nI mm)) 3 0 (nI (sz + 1)) 4 i).toNatClampNeg < 4 * n
        rw [e4]
        split
        · exact Or.inr (by rw [nI_clamp (by omega)]; exact hm)
        · exact hy i
      · show ∃ k, k < 4 * n ∧ m2 (m2 Y 4 sz (nI mm)) 3 0 (nI (sz + 1)) 4 i = nI k ∧ _
        rw [e4]
        split
        · exact ⟨mm, hm, rfl, (hM mm).mpr (Or.inr rfl)⟩
        · obtain ⟨k, k1, k2, k3⟩ := h3 i (by omega)
          exact ⟨k, k1, k2, (hM k).mpr (Or.inl k3)⟩
      · rw [cnt_add (P := mS (Y, L)) (fun i _ => hM i) (show mm < 48 by omega) c1', h4]
      · rcases (hM m).mp hm2 with q | q
        · obtain ⟨a, i, hi, he⟩ := h5 m q
          exact ⟨a, i, by omega, by
            show m2 (m2 Y 4 sz (nI mm)) 3 0 (nI (sz + 1)) 4 i = nI m
            rw [e4, if_neg (by omega)]; exact he⟩
        · exact ⟨by omega, sz, by omega, by
            show m2 (m2 Y 4 sz (nI mm)) 3 0 (nI (sz + 1)) 4 sz = nI m
            rw [e4, if_pos rfl, q]⟩
      · rw [rsz_eq h2 h1, rsz_eq e3 (by omega)]; omega
      · rw [rsz_eq h2 h1] at hi
        show m2 (m2 Y 4 sz (nI mm)) 3 0 (nI (sz + 1)) 4 i = Y 4 i
        rw [e4, if_neg (by omega)]
      · show m2 (m2 Y 4 sz (nI mm)) 3 0 (nI (sz + 1)) k = Y k
        rw [m2_ne (by omega), m2_ne (by omega)]
  · rw [rl_1 c1]
    have c1' : mS (Y, L) mm := Classical.byContradiction fun q => c1 ((and_lb (by omega)).mpr q)
    exact ⟨⟨hy, sz, h1, h2, h3, h4, h5⟩, leS.rf, fun m => ⟨Or.inl, fun h => h.elim id (fun q => by rw [q]; exact c1')⟩, fun _ => Iff.rfl⟩
theorem add_S {n x : Nat} {st : rST} (hn : n ≤ 12) (hL : LI n st) (hx : x < n) : LI n (rl_add x st) ∧ leS st (rl_add x st) ∧ (∀ m, mS (rl_add x st) m ↔ mS st m ∨ m = 4 * x) ∧ ∀ z, pS (rl_add x st) z ↔ pS st z ∨ z = x := by
  obtain ⟨Y, L⟩ := st
  obtain ⟨hy, sz, h1, h2, h3, h4, h5⟩ := hL
  have hk : ∀ k j, k ≠ 2 → m2 Y 2 0 (Y 2 0 ||| b1 x) k j = Y k j := fun k j h => m2_nk h
  have hL2 : LI n (m2 Y 2 0 (Y 2 0 ||| b1 x), L) := by
    refine ⟨fun i => ?_, sz, h1, ?_, fun i hi => ?_, h4, fun m q => ?_⟩
    · show m2 Y 2 0 (Y 2 0 ||| b1 x) 4 i = -1 ∨ (m2 Y 2 0 (Y 2 0 ||| b1 x) 4 i).toNatClampNeg < _
      rw [hk 4 i (by decide)]; exact hy i
    · show m2 Y 2 0 (Y 2 0 ||| b1 x) 3 0 = _
      rw [hk 3 0 (by decide)]; exact h2
    · show ∃ k, k < 4 * n ∧ m2 Y 2 0 (Y 2 0 ||| b1 x) 4 i = nI k ∧ mS (Y, L) k
      rw [hk 4 i (by decide)]; exact h3 i hi
    · obtain ⟨a, i, hi, he⟩ := h5 m q
      exact ⟨a, i, hi, (hk 4 i (by decide)).trans he⟩
  obtain ⟨a1, a2, a3, a4⟩ := list_S hn hL2 (show 4 * x < 4 * n by omega)
  have hp : ∀ z, pS (m2 Y 2 0 (Y 2 0 ||| b1 x), L) z ↔ pS (Y, L) z ∨ z = x := fun z => by
    unfold pS
    show bt (m2 Y 2 0 (Y 2 0 ||| b1 x) 2 0) z = true ↔ _
    rw [m2_at]
    exact b_add (by omega)
  have r0 : rsz (m2 Y 2 0 (Y 2 0 ||| b1 x), L) = rsz (Y, L) := by
    unfold rsz
    show (m2 Y 2 0 (Y 2 0 ||| b1 x) 3 0).toNatClampNeg = _
    rw [hk 3 0 (by decide)]
  refine ⟨a1, ⟨fun z q => (a4 z).mpr ((hp z).mpr (Or.inl q)), fun m q => (a3 m).mpr (Or.inl q), by rw [← r0]; exact a2.2.2.1, fun i hi => (a2.2.2.2.1 i (by rw [r0]; exact hi)).trans (hk 4 i (by decide)), fun k h => (a2.2.2.2.2 k h).trans (m2_ne (by omega))⟩, a3, fun z => (a4 z).trans (hp z)⟩
/-- what looking through the faces of x does -/
def fk (n : Nat) (S : Nat → Nat → Int32) (x : Nat) (st st2 : rST) : Prop := LI n st2 ∧ leS st st2 ∧ (∀ z, pS st2 z → pS st z ∨ (¬ S 1 z = 0 ∧ mS st2 (4 * z) ∧ FR S x z ∧ ¬ z = x ∧ ¬ S 2 z = 0)) ∧ ∀ m, mS st2 m → mS st m ∨ ∃ z, m = 4 * z ∧ pS st2 z
theorem fk.rf {n x : Nat} {S : Nat → Nat → Int32} {st : rST} (h : LI n st) : fk n S x st st := ⟨h, leS.rf, fun _ q => Or.inl q, fun _ q => Or.inl q⟩
theorem fk.tr {n x : Nat} {S : Nat → Nat → Int32} {st st2 st3 : rST} (h : fk n S x st st2) (h2 : fk n S x st2 st3) : fk n S x st st3 := by
  refine ⟨h2.1, h.2.1.tr h2.2.1, fun z q => ?_, fun m q => ?_⟩
  · rcases h2.2.2.1 z q with q | q
    · rcases h.2.2.1 z q with q | ⟨q1, q2, q3⟩
      · exact Or.inl q
      · exact Or.inr ⟨q1, h2.2.1.2.1 _ q2, q3⟩
    · exact Or.inr q
  · rcases h2.2.2.2 m q with q | q
    · rcases h.2.2.2 m q with q | ⟨z, q1, q2⟩
      · exact Or.inl q
      · exact Or.inr ⟨z, q1, h2.2.1.1 z q2⟩
    · exact Or.inr q
theorem fk.up {n x i : Nat} {S : Nat → Nat → Int32} {st st2 : rST} (hs : sI n S) (hx : x < n) (hi : i < (S 4 x).toNatClampNeg) (h : fk n S (S 5 (3 * x + i)).toNatClampNeg st st2) : fk n S x st st2 := by
  obtain ⟨f, hf, -, -, e⟩ := sI_fc1 hs hx hi
  refine ⟨h.1, h.2.1, fun z q => ?_, h.2.2.2⟩
  rcases h.2.2.1 z q with q | ⟨q1, q2, q3, q4, q5⟩
  · exact Or.inl q
  · refine Or.inr ⟨q1, q2, FR_st hi q3, ?_, q5⟩
    rw [e] at q3
    rcases FR_lt hs (show f < n by omega) q3 with r | ⟨r, -⟩ <;> omega
theorem rkA_S {n x i : Nat} {S : Nat → Nat → Int32} {st : rST} (hs : sI n S) (hx : x < n) (hi : i < (S 4 x).toNatClampNeg) (hL : LI n st) : fk n S x st (rkA S (S 5 (3 * x + i)).toNatClampNeg st) ∧ (¬ S 2 (S 5 (3 * x + i)).toNatClampNeg = 0 → pS (rkA S (S 5 (3 * x + i)).toNatClampNeg st) (S 5 (3 * x + i)).toNatClampNeg) := by
  have hr : FR S x (S 5 (3 * x + i)).toNatClampNeg := FR_st hi FR_rf
  obtain ⟨f, hf, -, h1, e⟩ := sI_fc1 hs hx hi
  rw [e] at hr ⊢
  unfold rkA
  by_cases c : S 2 f = 0
  · rw [if_pos c]; exact ⟨fk.rf hL, fun q => absurd c q⟩
  · rw [if_neg c]
    obtain ⟨a1, a2, a3, a4⟩ := add_S hs.1 hL (show f < n by omega)
    refine ⟨⟨a1, a2, fun z q => ?_, fun m q => ?_⟩, fun _ => (a4 f).mpr (Or.inr rfl)⟩
    · rcases (a4 z).mp q with q | q
      · exact Or.inl q
      · subst q
        exact Or.inr ⟨h1, (a3 _).mpr (Or.inr rfl), hr, by omega, c⟩
    · rcases (a3 m).mp q with q | q
      · exact Or.inl q
      · exact Or.inr ⟨f, q, (a4 f).mpr (Or.inr rfl)⟩
theorem rkL_S {n x : Nat} {S : Nat → Nat → Int32} {E : Nat → rST → rST} (hs : sI n S) (hx : x < n) (hE : ∀ y st, y < x → LI n st → fk n S y st (E y st) ∧ ∀ z, FR S y z → ¬ z = y → ¬ S 2 z = 0 → pS (E y st) z) : ∀ (r i : Nat) (st : rST), i + r = (S 4 x).toNatClampNeg → LI n st → fk n S x st (rkL E S x r i st) ∧ ∀ j, i ≤ j → j < (S 4 x).toNatClampNeg → ∀ z, FR S (S 5 (3 * x + j)).toNatClampNeg z → ¬ S 2 z = 0 → pS (rkL E S x r i st) z := by
  intro r
  induction r with
  | zero => intro i st hi hL; exact ⟨fk.rf hL, fun j h1 h2 => by omega⟩
  | succ r ih =>
    intro i st hi hL
    have hif : i < (S 4 x).toNatClampNeg := by omega
    have hy := (sI_face hs hx hif).1
    obtain ⟨f1, c1⟩ := hE (S 5 (3 * x + i)).toNatClampNeg st hy hL
    obtain ⟨f2, c2⟩ := rkA_S hs hx hif f1.1
    obtain ⟨f3, c3⟩ := ih (i + 1) _ (by omega) f2.1
    rw [rkL]
    refine ⟨((f1.up hs hx hif).tr f2).tr f3, fun j h1 h2 z hz hd => ?_⟩
    by_cases c : j = i
    · subst c
      apply f3.2.1.1
      by_cases d : z = (S 5 (3 * x + j)).toNatClampNeg
      · rw [d]; exact c2 (by rw [← d]; exact hd)
      · exact f2.2.1.1 z (c1 z hz d hd)
    · exact c3 j (by omega) h2 z hz hd
theorem rk_S {n : Nat} {S : Nat → Nat → Int32} (hs : sI n S) : ∀ (lv x : Nat) (st : rST), x < lv → x < n → LI n st → fk n S x st (rk S lv x st) ∧ ∀ z, FR S x z → ¬ z = x → ¬ S 2 z = 0 → pS (rk S lv x st) z := by
  intro lv
  induction lv with
  | zero => intro x st h; omega
  | succ lv ih =>
    intro x st hxl hx hL
    rw [rk]
    obtain ⟨f, c⟩ := rkL_S (E := rk S lv) hs hx (fun y st hy hL => ih y st (by omega) (by omega) hL) (S 4 x).toNatClampNeg 0 st (by omega) hL
    refine ⟨f, fun z hz hzx hd => ?_⟩
    rcases FR_un hz with q | ⟨i, hi, q⟩
    · exact absurd q hzx
    · exact c i (by omega) hi z q hd
/-- closed but for the methods, and for what e waits for -/
def Iv (S : Nat → Nat → Int32) (e : Nat → Prop) (st : rST) : Prop := ∀ z, pS st z → mS st (4 * z) ∧ (S 1 z = 0 → (¬ S 3 z = -1 → pS st (S 3 z).toNatClampNeg ∨ e (S 3 z).toNatClampNeg) ∧ ∀ y, ¬ y = z → ¬ S 2 y = 0 → FR S z y → pS st y)
theorem rwL_S {n : Nat} {S : Nat → Nat → Int32} (hs : sI n S) : ∀ (r x : Nat) (st : rST), x < r → x < n → LI n st → Iv S (fun y => y = x) st → LI n (rwL S r x st) ∧ leS st (rwL S r x st) ∧ Iv S (fun _ => False) (rwL S r x st) ∧ pS (rwL S r x st) x ∧ ∀ P M, cl n S P M → P x → sbS P M st → sbS P M (rwL S r x st) := by
  have hn := hs.1
  intro r
  induction r with
  | zero => intro x st h; omega
  | succ r ih =>
    intro x st hxr hx hL hI
    rw [rwL]
    by_cases c : st.1 2 0 &&& b1 x = 0
    · rw [if_neg (not_not_intro c)]
      obtain ⟨a1, a2, a3, a4⟩ := add_S hn hL hx
      -- behind the faces
      have key : LI n (rwK S x (rl_add x st)) ∧ leS st (rwK S x (rl_add x st)) ∧ pS (rwK S x (rl_add x st)) x ∧ (∀ z, pS (rwK S x (rl_add x st)) z → mS (rwK S x (rl_add x st)) (4 * z) ∧ (S 1 z = 0 → ((¬ S 3 z = -1 → pS (rwK S x (rl_add x st)) (S 3 z).toNatClampNeg) ∨ z = x) ∧ ∀ y, ¬ y = z → ¬ S 2 y = 0 → FR S z y → pS (rwK S x (rl_add x st)) y)) ∧ ∀ P M, cl n S P M → P x → sbS P M st → sbS P M (rwK S x (rl_add x st)) := by
        have old : ∀ st2, leS (rl_add x st) st2 → ∀ z, pS st z → mS st2 (4 * z) ∧ (S 1 z = 0 → ((¬ S 3 z = -1 → pS st2 (S 3 z).toNatClampNeg) ∨ z = x) ∧ ∀ y, ¬ y = z → ¬ S 2 y = 0 → FR S z y → pS st2 y) := by
          intro st2 hle z q
          obtain ⟨b1, b2⟩ := hI z q
          have hl2 := a2.tr hle
          refine ⟨hl2.2.1 _ b1, fun h1 => ⟨Or.inl fun h3 => ?_, fun y q1 q2 q3 => hl2.1 y ((b2 h1).2 y q1 q2 q3)⟩⟩
          rcases (b2 h1).1 h3 with q | q
          · exact hl2.1 _ q
          · rw [q]; exact hle.1 x ((a4 x).mpr (Or.inr rfl))
        have sadd : ∀ P M, cl n S P M → P x → sbS P M st → sbS P M (rl_add x st) := fun P M hc hP hb => ⟨fun z q => by
          rcases (a4 z).mp q with q | q
          · exact hb.1 z q
          · rw [q]; exact hP, fun m q => by
          rcases (a3 m).mp q with q | q
          · exact hb.2 m q
          · rw [q]; exact hc.2.2.1 x hP⟩
        unfold rwK
        by_cases d : S 1 x = 0
        · rw [if_pos d]
          obtain ⟨f, cf⟩ := rk_S hs 12 x (rl_add x st) (by omega) hx a1
          refine ⟨f.1, a2.tr f.2.1, f.2.1.1 x ((a4 x).mpr (Or.inr rfl)), fun z q => ?_, fun P M hc hP hb => ?_⟩
          · rcases f.2.2.1 z q with q | ⟨q1, q2, q3, q4, q5⟩
            · rcases (a4 z).mp q with q | q
              · exact old _ f.2.1 z q
              · subst q
                exact ⟨f.2.1.2.1 _ ((a3 _).mpr (Or.inr rfl)), fun _ => ⟨Or.inr rfl, fun y r1 r2 r3 => cf y r3 r1 r2⟩⟩
            · exact ⟨q2, fun h => absurd h q1⟩
          · have h1 := sadd P M hc hP hb
            have h2 : ∀ z, pS (rk S 12 x (rl_add x st)) z → P z := fun z q => by
              rcases f.2.2.1 z q with q | ⟨q1, q2, q3, q4, q5⟩
              · exact h1.1 z q
              · exact hc.2.2.2.2 x z hP d q4 q5 q3
            refine ⟨h2, fun m q => ?_⟩
            rcases f.2.2.2 m q with q | ⟨z, q1, q2⟩
            · exact h1.2 m q
            · rw [q1]; exact hc.2.2.1 z (h2 z q2)
        · rw [if_neg d]
          refine ⟨a1, a2, (a4 x).mpr (Or.inr rfl), fun z q => ?_, sadd⟩
          rcases (a4 z).mp q with q | q
          · exact old _ leS.rf z q
          · subst q
            exact ⟨(a3 _).mpr (Or.inr rfl), fun h => absurd h d⟩
      obtain ⟨k1, k2, k3, k4, k5⟩ := key
      by_cases d : S 3 x = -1
      · rw [if_pos d]
        refine ⟨k1, k2, fun z q => ?_, k3, k5⟩
        obtain ⟨b1, b2⟩ := k4 z q
        refine ⟨b1, fun h1 => ⟨fun h3 => Or.inl ?_, (b2 h1).2⟩⟩
        rcases (b2 h1).1 with q | q
        · exact q h3
        · subst q; exact absurd d h3
      · rw [if_neg d]
        obtain ⟨hp, -⟩ := sI_par hs hx d
        obtain ⟨r1, r2, r3, r4, r5⟩ := ih (S 3 x).toNatClampNeg (rwK S x (rl_add x st)) (by omega) (by omega) k1 (fun z q => by
          obtain ⟨b1, b2⟩ := k4 z q
          refine ⟨b1, fun h1 => ⟨fun h3 => ?_, (b2 h1).2⟩⟩
          rcases (b2 h1).1 with q | q
          · exact Or.inl (q h3)
          · subst q; exact Or.inr rfl)
        have h1x : S 1 x = 0 := Classical.byContradiction fun q => d (hs.2.2.2.2.2.1 x hx q)
        exact ⟨r1, k2.tr r2, r3, r2.1 x k3, fun P M hc hP hb => r5 P M hc (hc.2.2.2.1 x hP h1x d) (k5 P M hc hP hb)⟩
    · rw [if_pos c]
      have hpx : pS st x := Classical.byContradiction fun q => c ((and_b1 (by omega)).mpr q)
      refine ⟨hL, leS.rf, fun z q => ?_, hpx, fun P M _ _ hb => hb⟩
      obtain ⟨b1, b2⟩ := hI z q
      refine ⟨b1, fun h1 => ⟨fun h3 => Or.inl ?_, (b2 h1).2⟩⟩
      rcases (b2 h1).1 h3 with q | q
      · exact q
      · rw [q]; exact hpx
