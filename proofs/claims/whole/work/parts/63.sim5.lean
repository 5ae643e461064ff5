/-! THE RUN, 4: a method, a start, the faces, a want -/
theorem sI_t11 {n x q i : Nat} {S : Nat → Nat → Int32} (hs : sI n S) (hx : x < n) (hq : q < 4) (hi : i < (S 10 (4 * x + q)).toNatClampNeg) (h11 : S 11 (40 * (4 * x + q) + 4 * i) = nI 11) : ¬ S 11 (40 * (4 * x + q) + 4 * i + 2) = nI 10 ∧ lgN (S 11) (4 * x + q) i < i + 100 := by
  have hok := sI_act hs hx hq hi
  have h11' : S 11 (aT x q i) = nI 11 := h11
  refine ⟨?_, ?_⟩
  · obtain ⟨so, h12, hso, hv⟩ := act_so hok
    have e : so = 11 := (nI_eq (by omega) (by omega)).mp (hso.symm.trans h11')
    subst e
    intro hb
    unfold sp_areIn at hv
    by_cases c1 : S 11 (aT x q i + 1) < nI 1
    · rw [if_pos c1] at hv; exact hv rfl
    rw [if_neg c1] at hv
    by_cases c2 : nI 9 < S 11 (aT x q i + 1)
    · rw [if_pos c2] at hv; exact hv rfl
    rw [if_neg c2] at hv
    by_cases c3 : S 11 (aT x q i + 2) < -1
    · rw [if_pos c3] at hv; exact hv rfl
    have c4 : nI 9 < S 11 (aT x q i + 2) := by show nI 9 < S 11 (40 * (4 * x + q) + 4 * i + 2); rw [hb]; decide
    rw [if_neg c3, if_pos c4] at hv
    exact hv rfl
  · have h1 := lgN_le (S 11) (4 * x + q) i
    have h2 := act_t hok h11'
    have h3 : (S 11 (40 * (4 * x + q) + 4 * i + 1)).toNatClampNeg ≤ 9 := h2
    omega
/-- where the reference stands, when the class stands at i and passes over what is below nx -/
def rpos (i nx ac : Nat) : Nat := if nx ≤ i then i else Nat.min nx ac
set_option maxHeartbeats 4000000 in
theorem wk_sim {n k : Nat} (hW : simW n (k + 2)) (hK : simK n k) {x q d f ac : Nat} (hxn : x < n) (hq : q < 4) (hd8 : d < 8) (hac10 : ac ≤ 10) : ∀ (r i nx gc : Nat) (te : Nat → Nat) (S Y X : Nat → Nat → Int32), sI n S → dI n S → S 10 (4 * x + q) = nI ac → i + r = ac → f + 14 * cN S n + (8 - d) ≤ 280 → 40 * cN S n + 5 * (8 - d) ≤ k + 4 → X 22 0 = nI (f + 1) → X 21 0 = nI (d + 1) → X 31 0 = -1 → X 23 f = nI 0 → X 24 f = nI x → X 25 f = nI q → X 26 f = nI (rpos i nx ac) → X 27 f = nI 0 → Stk (S 11) (4 * x + q) ac (rpos i nx ac) f gc te X → Out f d (S, X) Y X (wkL (ev (k + 3)) x q d r i nx (S, Y)) := by
  intro r
  induction r with
  | zero =>
    intro i nx gc te S Y X hs hd hac hir hbud hfu h22 h21 h31 h23 h24 h25 h26 h27 hst
    have hn := hs.1
    have hp : rpos i nx ac = ac := by
      unfold rpos
      split
      · omega
      · exact Nat.min_eq_right (by omega)
    rw [hp] at h26 hst
    have hgi := hst.gi
    refine ⟨_, Go.st h22 (by omega) h31 (fun l G A adr => c_X7_step0 l G A adr S X f x _ _ h22 (by omega) h24 (by omega) h23 (c_X7_goOnE l G A adr S X f x q ac gc 0 (fun j => lgE (S 11) (4 * x + q) ac (te j)) d (by omega) h24 (by omega) h25 hq h26 (by omega) hst.h28 (by omega) (fun j hj => ⟨hst.e29 j hj, Nat.le_trans (Nat.min_le_right _ _) hac10⟩) (Nat.zero_le _) (fun j _ _ => Nat.min_le_right _ _) (Or.inl rfl) hac h22 h21 (by omega))), by simp [m2e], by simp [m2e], ?_, ?_, Lk.rf (by simp [m2e]), fun h => absurd h (show ¬ (-1 : Int32) = nI 7 by decide)⟩
    · show m2 _ _ _ _ _ _ = (-1 : Int32)
      simp [m2e, h31]
    · exact (((Fr.rf.m2 (by omega)).m2 (by omega)).m2 (by omega))
  | succ r ih =>
    intro i nx gc te S Y X hs hd hac hir hbud hfu h22 h21 h31 h23 h24 h25 h26 h27 hst
    have hn := hs.1
    rw [wkL]
    by_cases c : i < nx
    · rw [if_pos c]
      have hp : rpos (i + 1) nx ac = rpos i nx ac := by
        unfold rpos
        rw [if_neg (show ¬ nx ≤ i by omega)]
        by_cases e : nx ≤ i + 1
        · rw [if_pos e, show Nat.min nx ac = nx from Nat.min_eq_left (by omega)]; omega
        · rw [if_neg e]
      exact ih (i + 1) nx gc te S Y X hs hd hac (by omega) hbud hfu h22 h21 h31 h23 h24 h25 (by rw [hp]; exact h26) h27 (by rw [hp]; exact hst)
    · rw [if_neg c]
      have hp : rpos i nx ac = i := by unfold rpos; rw [if_pos (by omega)]
      rw [hp] at h26 hst
      obtain ⟨X2, gp, te2, go2, e22, e21, e31, e23, e24, e25, fr2, lk2, e72, hok, hno⟩ := s_B hW hK S Y X x q i d f gc ac te hs hd hxn hq hd8 hac hac10 (by omega) hbud hfu h22 h21 h31 h23 h24 h25 h26 h27 hst
      have hix : i < (S 10 (4 * x + q)).toNatClampNeg := by rw [hac, nI_clamp (by omega)]; omega
      have hgood := ev_ok n (k + 3) 4 x q i (d + 1) (S, Y) hs hd hxn hq (fun _ => hix)
      generalize ev (k + 3) 4 x q i (d + 1) (S, Y) = r1 at go2 e31 lk2 e72 hok hno hgood ⊢
      obtain ⟨w1, S1, Y1⟩ := r1
      obtain ⟨hsta, hmon, hd1, hthr⟩ := hgood
      dsimp only at go2 e31 lk2 e72 hok hno hsta hmon hd1 hthr ⊢
      have hs1 := hs.to hsta
      have e11 : S1 11 = S 11 := hsta 11 (by omega)
      have hac1 : S1 10 (4 * x + q) = nI ac := by rw [hsta 10 (by omega)]; exact hac
      have hc1 : cN S1 n ≤ cN S n := cN_le hmon
      by_cases c1 : w1 = -1
      · rw [if_pos c1]
        obtain ⟨f26, f27, fst⟩ := hok c1
        rw [c1] at e31
        have hp2 : rpos (i + 1) nx ac = i + 1 := by unfold rpos; rw [if_pos (by omega)]
        obtain ⟨X3, go3, a22, a21, a31, fr3, lk3, e73⟩ := ih (i + 1) nx gp te2 S1 Y1 X2 hs1 hd1 hac1 (by omega) (by omega) (by omega) e22 e21 e31 e23 e24 e25 (by rw [hp2]; exact f26) f27 (by rw [hp2, e11]; exact fst)
        exact ⟨X3, go2.tr go3, a22, a21, a31, fr2.tr fr3, lk2.tr lk3, e73⟩
      · rw [if_neg c1]
        obtain ⟨hpop, h10⟩ := hno c1
        have hgi := hpop.1.gi
        have hnt : ∀ p, p < gp → te2 p < i := hpop.1.lt
        have hoks : ∀ j, j < i → S 11 (40 * (4 * x + q) + 4 * j) = nI 11 → ¬ S 11 (40 * (4 * x + q) + 4 * j + 2) = nI 10 ∧ lgN (S 11) (4 * x + q) j < 1000 := fun j hj h11 => by
          have h := sI_t11 hs hxn hq (show j < (S 10 (4 * x + q)).toNatClampNeg by omega) h11
          exact ⟨h.1, by omega⟩
        rcases hpop.ecq (w := w1) (by omega) (by omega) hoks with ⟨p, hpg, hcat, hncat, heoc⟩ | ⟨hncat, heoc⟩
        · rw [heoc, if_neg (nI_m1 (by have := (hoks (te2 p) (hnt p hpg) (hpop.1.t11 p hpg)).2; omega)), nI_clamp (by have := (hoks (te2 p) (hnt p hpg) (hpop.1.t11 p hpg)).2; omega)]
          have hn11 : ¬ S 11 (40 * (4 * x + q) + 4 * i) = nI 11 := fun h => hcat.1 (h10 h)
          obtain ⟨X3, hX3⟩ : ∃ X3, X3 = m2 (m2 (m2 (m2 X2 28 f (nI p)) 31 0 (-1)) 26 f (X2 29 (10 * f + p))) 27 f (nI 0) := ⟨_, rfl⟩
          have g3 : Go (S1, X2) (S1, X3) := by
            refine Go.fl e22 (by omega) (by rw [e31]; exact c1) (fun l G A adr => ?_)
            rw [hX3]
            exact c_X7_flyC l G A adr S1 X2 f x p (gp - 1 - p) w1 e22 (by omega) e24 e31 e23 (by rw [hpop.1.h28]; exact congrArg nI (by omega)) (by omega) hcat (fun j h1 h2 => hncat j h1 (by omega))
          have hlg := hpop.2 p hpg
          have hp2 : rpos (i + 1) (lgN (S 11) (4 * x + q) (te2 p) + 1) ac = lgE (S 11) (4 * x + q) ac (te2 p) := by
            unfold rpos lgE
            by_cases e : lgN (S 11) (4 * x + q) (te2 p) + 1 ≤ i + 1
            · rw [if_pos e, show Nat.min (lgN (S 11) (4 * x + q) (te2 p) + 1) ac = lgN (S 11) (4 * x + q) (te2 p) + 1 from Nat.min_eq_left (by omega)]; omega
            · rw [if_neg e]
          obtain ⟨X4, go4, a22, a21, a31, fr4, lk4, e74⟩ := ih (i + 1) (lgN (S 11) (4 * x + q) (te2 p) + 1) p te2 S1 Y1 X3 hs1 hd1 hac1 (by omega) (by omega) (by omega) (by rw [hX3]; simp [m2e, e22]) (by rw [hX3]; simp [m2e, e21]) (by rw [hX3]; simp [m2e]) (by rw [hX3]; simp [m2e, e23]) (by rw [hX3]; simp [m2e, e24]) (by rw [hX3]; simp [m2e, e25]) (by rw [hp2, hX3]; simp [m2e, hpop.1.e29 p hpg]) (by rw [hX3]; simp [m2e]) (by rw [hp2, e11]; exact hpop.caught (by omega) hn11 hpg (by rw [hX3]; simp [m2e]) (fun p2 _ => by rw [hX3]; simp [m2e]) (fun p2 _ => by rw [hX3]; simp [m2e]))
          refine ⟨X4, (go2.tr g3).tr go4, a22, a21, a31, (fr2.tr ?_).tr fr4, lk2.tr (lk4.pre (by rw [hX3]; simp [m2e])), e74⟩
          rw [hX3]
          exact ((((Fr.rf.m2 (by omega)).m2 (by omega)).m2 (by omega)).m2 (by omega))
        · rw [heoc, if_pos rfl]
          refine ⟨_, go2.tr (Go.fl e22 (by omega) (by rw [e31]; exact c1) (fun l G A adr => c_X7_flyN l G A adr S1 X2 f x gp d w1 e22 (by omega) e24 e31 e23 hpop.1.h28 (by omega) hncat e21)), by simp [m2e], by simp [m2e], by simp [m2e, e31], fr2.tr (((Fr.rf.m2 (by omega)).m2 (by omega)).m2 (by omega)), lk2.post (by simp [m2e]), fun h => by simp [m2e]; exact e72 h⟩
theorem s_K {n k : Nat} (hW : simW n (k + 2)) (hK : simK n k) : simK n (k + 4) := by
  intro S Y X x q d f hs hd hxn hq hd8 hfu hbud h31
  have h10 := (sI_ac hs (show 4 * x + q < 48 by have := hs.1; omega)).1
  have hac := (sI_ac hs (show 4 * x + q < 48 by have := hs.1; omega)).2
  rw [ev3]
  dsimp only
  generalize (S 10 (4 * x + q)).toNatClampNeg = ac at h10 hac
  obtain ⟨X2, go, a22, a21, a31, fr, lk, e7⟩ := wk_sim hW hK (f := f) hxn hq hd8 h10 ac 0 0 0 (fun _ => 0) S Y (rf_push (m2 X 21 0 (nI (d + 1))) f (nI 0) (nI x) (nI q)) hs hd hac (by omega) hbud hfu pu_22 (by rw [pu_o (by omega)]; simp [m2e]) (by rw [pu_o (by omega)]; simp [m2e, h31]) pu_23 pu_24 pu_25 pu_26 pu_27 ⟨Nat.zero_le _, pu_28, fun p h => absurd h (by omega), fun p h => absurd h (by omega), fun p h => absurd h (by omega), fun p h => absurd h (by omega), fun p p2 _ h => absurd h (by omega), fun p p2 _ h => absurd h (by omega), fun _ j hj => absurd hj (by show ¬ j < 0; omega)⟩
  exact ⟨X2, go, a22, a21, a31, ((Fr.rf.m2 (by omega)).push (Nat.le_refl _)).tr fr, lk.pre (by rw [pu_o (by omega)]; simp [m2e]), e7⟩
