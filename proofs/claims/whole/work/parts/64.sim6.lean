/-! THE RUN, 5 -/
theorem s_W {n k : Nat} (hS : simS n k) : simW n (k + 1) := by
  intro S Y X x d f hs hd hxn hd8 hfu hbud h22 h21 h31
  have hn := hs.1
  rw [ev0]
  dsimp only
  by_cases c3 : S 12 x = nI 3
  · rw [if_pos c3, rf_wantS, if_pos c3, rf_wantX, if_pos c3]
    exact ⟨m2 X 31 0 (nI 8), Go.rf, by simp [m2e, h22], by simp [m2e, h21], by simp [m2e], Fr.rf.m2 (by omega), Lk.rf (by simp [m2e]), fun h => absurd h (show ¬ nI 8 = nI 7 by decide)⟩
  by_cases c0 : ¬ S 12 x = 0
  · rw [if_neg c3, if_neg c0, rf_wantS, if_neg c3, if_neg c0, rf_wantX, if_neg c3, if_neg c0]
    exact ⟨X, Go.rf, h22, h21, h31, Fr.rf, Lk.rf rfl, fun h => absurd h (show ¬ (-1 : Int32) = nI 7 by decide)⟩
  replace c0 := Classical.not_not.mp c0
  rw [if_neg c3, if_pos c0, rf_wantS, if_neg c3, if_pos c0, rf_wantX, if_neg c3, if_pos c0]
  have hc := wt0_cN hxn c0
  obtain ⟨X2, go2, e22, e21, e31, e23, e24, e27, fr2, lk2, e72⟩ := hS (wt0 S x) Y X x d f (hs.to wt0_sta) (wt0_dI hd) hxn hd8 (by omega) (by omega) h21 h31
  have hgood := ev_ok n k 1 x 0 0 d (wt0 S x, Y) (hs.to wt0_sta) (wt0_dI hd) hxn (by omega) (fun h => by omega)
  generalize ev k 1 x 0 0 d (wt0 S x, Y) = r1 at go2 e31 lk2 e72 e27 hgood ⊢
  obtain ⟨w1, S1, Y1⟩ := r1
  obtain ⟨hsta, hmon, hd1, hthr⟩ := hgood
  dsimp only at go2 e31 lk2 e72 e27 hsta hmon hd1 hthr
  obtain ⟨hev, he⟩ := hd1.ev
  unfold wtE
  dsimp only
  by_cases c1 : w1 = -1
  · rw [if_pos c1]
    rw [c1] at e31
    refine ⟨_, go2.tr (Go.st e22 (by omega) e31 (fun l G A adr => c_X7_step1g l G A adr S1 X2 f x (cev S1) e22 (by omega) e24 (by omega) e23 (e27 c1) hev he)), by simp [m2e], by simp [m2e, e21], by simp [m2e, e31], fr2.tr ((Fr.rf.m2 (by omega)).m2 (by omega)), lk2.post (by simp [m2e]), fun h => absurd h (show ¬ (-1 : Int32) = nI 7 by decide)⟩
  · rw [if_neg c1]
    have h7 := thr_lt7 hthr c1
    by_cases c7 : w1 < nI 7
    · rw [if_pos c7]
      refine ⟨_, go2.tr (Go.fl e22 (by omega) (by rw [e31]; exact c1) (fun l G A adr => c_X7_flyS l G A adr S1 X2 f x (cev S1) w1 e22 (by omega) e24 e31 e23 (by omega) hev he (h7.1 c7))), by simp [m2e], by simp [m2e, e21], by simp [m2e], fr2.tr (((Fr.rf.m2 (by omega)).m2 (by omega)).m2 (by omega)), ⟨fun j hj => (m2_ne hj).trans (lk2.1 j hj), fun _ => by simp [m2e]⟩, fun _ => by simp [m2e]⟩
    · rw [if_neg c7]
      refine ⟨_, go2.tr (Go.fl e22 (by omega) (by rw [e31]; exact c1) (fun l G A adr => c_X7_flyT l G A adr S1 X2 f x (cev S1) w1 e22 (by omega) e24 e31 e23 (by omega) hev he (h7.2 c7))), by simp [m2e], by simp [m2e, e21], by simp [m2e, e31], fr2.tr (Fr.rf.m2 (by omega)), lk2.post (by simp [m2e]), fun h => by simp [m2e]; exact e72 h⟩
def OutQ (f d x sg : Nat) (a : rf_ST) (Y X : Nat → Nat → Int32) (r : Int32 × cST) : Prop := ∃ X2, Go a (r.2.1, X2) ∧ X2 22 0 = nI (f + 1) ∧ X2 21 0 = nI d ∧ X2 31 0 = r.1 ∧ X2 23 f = nI 1 ∧ X2 24 f = nI x ∧ X2 27 f = nI sg ∧ Fr f X X2 ∧ Lk Y X r.2.2 X2 ∧ (r.1 = nI 7 → r.2.2 1 0 = X2 19 0)
/-- a call that is made over the frame f of a start -/
theorem OutQ.of {f d x sg : Nat} {a a2 : rf_ST} {Y X X1 X2 : Nat → Nat → Int32} {r : Int32 × cST} (h : Out (f + 1) d a2 Y X2 r) (hg : Go a a2) (h23 : X2 23 f = nI 1) (h24 : X2 24 f = nI x) (h27 : X2 27 f = nI sg) (hf : Fr f X1 X2) (h19 : X2 19 0 = X1 19 0) (hf0 : Fr f X X1) (hl0 : X1 19 0 = X 19 0) : OutQ f d x sg a Y X r := by
  obtain ⟨X3, go, e22, e21, e31, fr, lk, e7⟩ := h
  exact ⟨X3, hg.tr go, e22, e21, e31, (fr.1 23 f (by omega) (by omega) (by omega)).trans h23, (fr.1 24 f (by omega) (by omega) (by omega)).trans h24, (fr.1 27 f (by omega) (by omega) (by omega)).trans h27, (hf0.tr hf).tr (fr.le (by omega)), lk.pre (h19.trans hl0), e7⟩
theorem s_S {n k : Nat} (hW : simW n k) (hL : simL n k) (hK : simK n k) : simS n (k + 1) := by
  intro S Y X x d f hs hd hxn hd8 hfu hbud h21 h31
  have hn := hs.1
  have hff : f + 1 < 300 := by omega
  rw [ev1]
  obtain ⟨X0, hX0⟩ : ∃ X0, X0 = rf_push X f (nI 1) (nI x) (nI 0) := ⟨_, rfl⟩
  rw [← hX0]
  have a22 : X0 22 0 = nI (f + 1) := by rw [hX0]; exact pu_22
  have a21 : X0 21 0 = nI d := by rw [hX0, pu_o (by omega)]; exact h21
  have a31 : X0 31 0 = -1 := by rw [hX0, pu_o (by omega)]; exact h31
  have a19 : X0 19 0 = X 19 0 := by rw [hX0, pu_o (by omega)]
  have a23 : X0 23 f = nI 1 := by rw [hX0]; exact pu_23
  have a24 : X0 24 f = nI x := by rw [hX0]; exact pu_24
  have a27 : X0 27 f = nI 0 := by rw [hX0]; exact pu_27
  have fr0 : Fr f X X0 := by rw [hX0]; exact Fr.rf.push (Nat.le_refl _)
  clear hX0
  obtain ⟨hev, he⟩ := hd.ev
  -- the parent
  have p1 : OutQ f d x 1 (S, X0) Y X (stP (ev k) x d (S, Y)) ∧ good n S (stP (ev k) x d (S, Y)) := by
    unfold stP
    dsimp only
    by_cases hp : S 3 x = -1
    · rw [if_pos hp]
      exact ⟨⟨m2 X0 27 f (nI 1), Go.st a22 (by omega) a31 (fun l G A adr => c_X7_step1a l G A adr S X0 f x a22 hff a24 (by omega) a23 a27 hp), by simp [m2e, a22], by simp [m2e, a21], by simp [m2e, a31], by simp [m2e, a23], by simp [m2e, a24], by simp [m2e], fr0.tr (Fr.rf.m2 (by omega)), Lk.rf (by simp [m2e, a19]), fun h => absurd h (show ¬ (-1 : Int32) = nI 7 by decide)⟩, good_rf hd thr_m⟩
    · rw [if_neg hp]
      obtain ⟨hpx, hpe⟩ := sI_par hs hxn hp
      generalize (S 3 x).toNatClampNeg = y at hpx hpe
      refine ⟨OutQ.of (X1 := X0) (hW S Y (m2 X0 27 f (nI 1)) y d (f + 1) hs hd (by omega) hd8 (by omega) (by omega) (by simp [m2e, a22]) (by simp [m2e, a21]) (by simp [m2e, a31])) (Go.st a22 (by omega) a31 (fun l G A adr => c_X7_step1b l G A adr S X0 f x y (cev S) a22 hff a24 (by omega) a23 a27 hpe (by omega) hev he)) (by simp [m2e, a23]) (by simp [m2e, a24]) (by simp [m2e]) (Fr.rf.m2 (by omega)) (by simp [m2e]) fr0 a19, ev_ok n k 0 y 0 0 d (S, Y) hs hd (by omega) (by omega) (fun h => by omega)⟩
  obtain ⟨p1, good1⟩ := p1
  generalize stP (ev k) x d (S, Y) = r1 at p1 good1 ⊢
  obtain ⟨w1, S1, Y1⟩ := r1
  obtain ⟨X1, go1, b22, b21, b31, b23, b24, b27, fr1, lk1, e71⟩ := p1
  obtain ⟨hsta1, hmon1, hd1, hthr1⟩ := good1
  dsimp only at go1 b31 lk1 e71 hsta1 hmon1 hd1 hthr1
  have hs1 := hs.to hsta1
  have hc1 : cN S1 n ≤ cN S n := cN_le hmon1
  by_cases c1 : ¬ w1 = -1
  · rw [st_1 c1, st_4 c1]
    exact ⟨X1, go1, b22, b21, b31, b23, b24, fun h => absurd h c1, fr1, lk1, e71⟩
  replace c1 := Classical.not_not.mp c1
  subst c1
  -- its faces
  have p2 : OutQ f d x 2 (S1, X1) Y1 X1 (stL (ev k) x d (-1, (S1, Y1))) ∧ good n S1 (stL (ev k) x d (-1, (S1, Y1))) := by
    by_cases hi : S1 1 x = 0
    · rw [st_2 rfl hi]
      exact ⟨OutQ.of (X1 := X1) (hL S1 Y1 (m2 X1 27 f (nI 2)) x 12 d (f + 1) hs1 hd1 hxn hd8 (by omega) (by omega) (by omega) (by omega) (by simp [m2e, b21]) (by simp [m2e, b31])) (Go.st b22 (by omega) b31 (fun l G A adr => c_X7_step1c l G A adr S1 X1 f x b22 hff b24 (by omega) b23 b27 hi)) (by simp [m2e, b23]) (by simp [m2e, b24]) (by simp [m2e]) (Fr.rf.m2 (by omega)) (by simp [m2e]) Fr.rf rfl, ev_ok n k 2 x 0 12 d (S1, Y1) hs1 hd1 hxn (by omega) (fun h => by omega)⟩
    · rw [st_3 rfl hi]
      exact ⟨⟨m2 X1 27 f (nI 2), Go.st b22 (by omega) b31 (fun l G A adr => c_X7_step1d l G A adr S1 X1 f x b22 hff b24 (by omega) b23 b27 hi), by simp [m2e, b22], by simp [m2e, b21], by simp [m2e, b31], by simp [m2e, b23], by simp [m2e, b24], by simp [m2e], Fr.rf.m2 (by omega), Lk.rf (by simp [m2e]), fun h => absurd h (show ¬ (-1 : Int32) = nI 7 by decide)⟩, good_rf hd1 thr_m⟩
  obtain ⟨p2, good2⟩ := p2
  generalize stL (ev k) x d (-1, (S1, Y1)) = r2 at p2 good2 ⊢
  obtain ⟨w2, S2, Y2⟩ := r2
  obtain ⟨X2, go2, c22, c21, c31, c23, c24, c27, fr2, lk2, e72⟩ := p2
  obtain ⟨hsta2, hmon2, hd2, hthr2⟩ := good2
  dsimp only at go2 c31 lk2 e72 hsta2 hmon2 hd2 hthr2
  have hs2 := hs1.to hsta2
  have hc2 : cN S2 n ≤ cN S1 n := cN_le hmon2
  by_cases d1 : ¬ w2 = -1
  · rw [st_4 d1]
    exact ⟨X2, go1.tr go2, c22, c21, c31, c23, c24, fun h => absurd h d1, fr1.tr fr2, lk1.tr lk2, e72⟩
  replace d1 := Classical.not_not.mp d1
  subst d1
  -- its method 0
  by_cases h8 : d < 8
  · rw [st_5 rfl h8]
    have h := OutQ.of (x := x) (sg := 3) (X := X2) (X1 := X2) (a := (S2, X2)) (hK S2 Y2 (m2 X2 27 f (nI 3)) x 0 d (f + 1) hs2 hd2 hxn (by omega) h8 (by omega) (by omega) (by simp [m2e, c31])) (Go.st c22 (by omega) c31 (fun l G A adr => by
      have h := c_X7_step1e l G A adr S2 X2 f x d c22 hff c24 (by omega) c23 c27 c21 (by omega)
      rw [rf_entS, if_neg (by omega), rf_entX, if_neg (by omega)] at h
      exact h)) (by simp [m2e, c23]) (by simp [m2e, c24]) (by simp [m2e]) (Fr.rf.m2 (by omega)) (by simp [m2e]) Fr.rf rfl
    obtain ⟨X3, go3, f22, f21, f31, f23, f24, f27, fr3, lk3, e73⟩ := h
    exact ⟨X3, (go1.tr go2).tr go3, f22, f21, f31, f23, f24, fun _ => f27, (fr1.tr fr2).tr fr3, (lk1.tr lk2).tr lk3, e73⟩
  · rw [st_6 rfl h8]
    refine ⟨m2 (m2 X2 27 f (nI 3)) 31 0 (nI 9), (go1.tr go2).tr (Go.st c22 (by omega) c31 (fun l G A adr => by
      have h := c_X7_step1e l G A adr S2 X2 f x d c22 hff c24 (by omega) c23 c27 c21 (by omega)
      rw [rf_entS, if_pos (by omega), rf_entX, if_pos (by omega)] at h
      exact h)), by simp [m2e, c22], by simp [m2e, c21], by simp [m2e], by simp [m2e, c23], by simp [m2e, c24], fun h => absurd h (show ¬ nI 9 = -1 by decide), (fr1.tr fr2).tr ((Fr.rf.m2 (by omega)).m2 (by omega)), (lk1.tr lk2).post (by simp [m2e]), fun h => absurd h (show ¬ nI 9 = nI 7 by decide)⟩
theorem lkL_w {E : cEV} {x d lv r i : Nat} {w : Int32} {st : cST} (h : ¬ w = -1) : lkL E x d lv r i w st = (w, st) := by
  cases r with
  | zero => rfl
  | succ r => rw [lkL, if_pos h]
set_option maxHeartbeats 4000000 in
theorem lk_sim {n k : Nat} (hW : simW n k) (hL : simL n k) {x d lv f fc : Nat} (hxn : x < n) (hd8 : d ≤ 8) (hlv : lv ≤ 12) (hxl : x < lv) (hfc3 : fc ≤ 3) : ∀ (r i : Nat) (S Y X : Nat → Nat → Int32), sI n S → dI n S → S 4 x = nI fc → i + r = fc → 40 * cN S n + 5 * (8 - d) + 2 + lv ≤ k + 1 → f + 14 * cN S n + (x + 1) + (8 - d) ≤ 280 → X 22 0 = nI (f + 1) → X 21 0 = nI d → X 31 0 = -1 → X 23 f = nI 2 → X 24 f = nI x → X 25 f = nI i → X 27 f = nI 0 → Out f d (S, X) Y X (lkL (ev k) x d lv r i (-1) (S, Y)) := by
  intro r
  induction r with
  | zero =>
    intro i S Y X hs hd hfc hir hfu hbud h22 h21 h31 h23 h24 h25 h27
    have hn := hs.1
    have hi : i = fc := by omega
    subst hi
    exact ⟨_, Go.st h22 (by omega) h31 (fun l G A adr => c_X7_step2 l G A adr S X f x _ _ h22 (by omega) h24 (by omega) h23 (c_X7_lookE l G A adr S X f x i h22 (by omega) (by omega) h25 hfc3 hfc)), by simp [m2e], by simp [m2e, h21], by simp [m2e, h31]; rfl, Fr.rf.m2 (by omega), Lk.rf (by simp [m2e]), fun h => absurd h (show ¬ (-1 : Int32) = nI 7 by decide)⟩
  | succ r ih =>
    intro i S Y X hs hd hfc hir hfu hbud h22 h21 h31 h23 h24 h25 h27
    have hn := hs.1
    have hff : f + 1 < 300 := by omega
    rw [lkL, if_neg (not_not_intro rfl), if_neg (show ¬ lv = 0 by omega)]
    dsimp only
    obtain ⟨hyx, hye⟩ := sI_face hs hxn (show i < (S 4 x).toNatClampNeg by rw [hfc, nI_clamp (by omega)]; omega)
    generalize (S 5 (3 * x + i)).toNatClampNeg = y at hyx hye ⊢
    obtain ⟨X1, go1, b22, b21, b31, fr1, lk1, e71⟩ := hL S Y (m2 X 27 f (nI 1)) y (lv - 1) d (f + 1) hs hd (by omega) hd8 (by omega) (by omega) (by omega) (by omega) (by simp [m2e, h21]) (by simp [m2e, h31])
    have g1 : Go (S, X) (S, rf_push (m2 X 27 f (nI 1)) (f + 1) (nI 2) (nI y) (nI 0)) := Go.st h22 (by omega) h31 (fun l G A adr => c_X7_step2 l G A adr S X f x _ _ h22 hff h24 (by omega) h23 (c_X7_lookD l G A adr S X f x i fc y h22 hff (by omega) h25 hfc (by omega) hfc3 hye (by omega) h27))
    have hgood := ev_ok n k 2 y 0 (lv - 1) d (S, Y) hs hd (by omega) (by omega) (fun h => by omega)
    generalize ev k 2 y 0 (lv - 1) d (S, Y) = r1 at go1 b31 lk1 e71 hgood ⊢
    obtain ⟨w1, S1, Y1⟩ := r1
    obtain ⟨hsta1, hmon1, hd1, hthr1⟩ := hgood
    dsimp only at go1 b31 lk1 e71 hsta1 hmon1 hd1 hthr1 ⊢
    have hs1 := hs.to hsta1
    have hc1 : cN S1 n ≤ cN S n := cN_le hmon1
    have b23 : X1 23 f = nI 2 := (fr1.1 23 f (by omega) (by omega) (by omega)).trans (by simp [m2e, h23])
    have b24 : X1 24 f = nI x := (fr1.1 24 f (by omega) (by omega) (by omega)).trans (by simp [m2e, h24])
    have b25 : X1 25 f = nI i := (fr1.1 25 f (by omega) (by omega) (by omega)).trans (by simp [m2e, h25])
    have b27 : X1 27 f = nI 1 := (fr1.1 27 f (by omega) (by omega) (by omega)).trans (by simp [m2e])
    have fr1' : Fr f X X1 := (Fr.rf.m2 (by omega)).tr (fr1.le (by omega))
    have lk1' : Lk Y X Y1 X1 := lk1.pre (by simp [m2e])
    by_cases c1 : ¬ w1 = -1
    · rw [if_pos c1, lkL_w c1]
      exact ⟨_, (g1.tr go1).tr (Go.fl b22 (by omega) (by rw [b31]; exact c1) (fun l G A adr => c_X7_flyO l G A adr S1 X1 f x 2 w1 b22 (by omega) b24 b31 b23 (by omega) (by omega))), by simp [m2e], by simp [m2e, b21], by simp [m2e, b31], fr1'.tr (Fr.rf.m2 (by omega)), lk1'.post (by simp [m2e]), fun h => by simp [m2e]; exact e71 h⟩
    rw [if_neg c1]
    replace c1 := Classical.not_not.mp c1
    subst c1
    have hfc1 : S1 4 x = nI fc := by rw [hsta1 4 (by omega)]; exact hfc
    have hye1 : S1 5 (3 * x + i) = nI y := by rw [hsta1 5 (by omega)]; exact hye
    have e2 : S1 2 = S 2 := hsta1 2 (by omega)
    by_cases c2 : S 2 y = 0
    · rw [if_pos c2]
      have g2 : Go (S1, X1) (S1, m2 (m2 (m2 X1 27 f (nI 2)) 27 f (nI 0)) 25 f (nI (i + 1))) := Go.st b22 (by omega) b31 (fun l G A adr => c_X7_step2 l G A adr S1 X1 f x _ _ b22 hff b24 (by omega) b23 (c_X7_lookN l G A adr S1 X1 f x i fc y b22 hff (by omega) b25 hfc1 (by omega) hfc3 hye1 (by omega) b27 (by rw [e2]; exact c2)))
      obtain ⟨X3, go3, f22, f21, f31, fr3, lk3, e73⟩ := ih (i + 1) S1 Y1 (m2 (m2 (m2 X1 27 f (nI 2)) 27 f (nI 0)) 25 f (nI (i + 1))) hs1 hd1 hfc1 (by omega) (by omega) (by omega) (by simp [m2e, b22]) (by simp [m2e, b21]) (by simp [m2e, b31]) (by simp [m2e, b23]) (by simp [m2e, b24]) (by simp [m2e]) (by simp [m2e])
      exact ⟨X3, ((g1.tr go1).tr g2).tr go3, f22, f21, f31, (fr1'.tr (((Fr.rf.m2 (by omega)).m2 (by omega)).m2 (by omega))).tr fr3, lk1'.tr (lk3.pre (by simp [m2e])), e73⟩
    rw [if_neg c2]
    obtain ⟨hev, he⟩ := hd1.ev
    obtain ⟨X2, hX2⟩ : ∃ X2, X2 = m2 (m2 (m2 X1 27 f (nI 2)) 27 f (nI 0)) 25 f (nI (i + 1)) := ⟨_, rfl⟩
    have g2 : Go (S1, X1) (rf_wantS S1 (cev S1) y, rf_wantX S1 X2 (f + 1) y) := by
      rw [hX2]
      exact Go.st b22 (by omega) b31 (fun l G A adr => c_X7_step2 l G A adr S1 X1 f x _ _ b22 hff b24 (by omega) b23 (c_X7_lookW l G A adr S1 X1 f x i fc y (cev S1) b22 hff (by omega) b25 hfc1 (by omega) hfc3 hye1 (by omega) b27 (by rw [e2]; exact c2) hev he))
    have fr2 : Fr f X1 X2 := by rw [hX2]; exact ((Fr.rf.m2 (by omega)).m2 (by omega)).m2 (by omega)
    obtain ⟨X3, go3, f22, f21, f31, fr3, lk3, e73⟩ := hW S1 Y1 X2 y d (f + 1) hs1 hd1 (by omega) hd8 (by omega) (by omega) (by rw [hX2]; simp [m2e, b22]) (by rw [hX2]; simp [m2e, b21]) (by rw [hX2]; simp [m2e, b31])
    have hgood := ev_ok n k 0 y 0 0 d (S1, Y1) hs1 hd1 (by omega) (by omega) (fun h => by omega)
    generalize ev k 0 y 0 0 d (S1, Y1) = r3 at go3 f31 lk3 e73 hgood ⊢
    obtain ⟨w3, S3, Y3⟩ := r3
    obtain ⟨hsta3, hmon3, hd3, hthr3⟩ := hgood
    dsimp only at go3 f31 lk3 e73 hsta3 hmon3 hd3 hthr3 ⊢
    have hs3 := hs1.to hsta3
    have hc3 : cN S3 n ≤ cN S1 n := cN_le hmon3
    have f23 : X3 23 f = nI 2 := (fr3.1 23 f (by omega) (by omega) (by omega)).trans (by rw [hX2]; simp [m2e, b23])
    have f24 : X3 24 f = nI x := (fr3.1 24 f (by omega) (by omega) (by omega)).trans (by rw [hX2]; simp [m2e, b24])
    have f25 : X3 25 f = nI (i + 1) := (fr3.1 25 f (by omega) (by omega) (by omega)).trans (by rw [hX2]; simp [m2e])
    have f27 : X3 27 f = nI 0 := (fr3.1 27 f (by omega) (by omega) (by omega)).trans (by rw [hX2]; simp [m2e])
    have lk3' : Lk Y1 X1 Y3 X3 := lk3.pre (by rw [hX2]; simp [m2e])
    have fr3' : Fr f X X3 := (fr1'.tr fr2).tr (fr3.le (by omega))
    by_cases c3 : ¬ w3 = -1
    · rw [lkL_w c3]
      exact ⟨_, (((g1.tr go1).tr g2).tr go3).tr (Go.fl f22 (by omega) (by rw [f31]; exact c3) (fun l G A adr => c_X7_flyO l G A adr S3 X3 f x 2 w3 f22 (by omega) f24 f31 f23 (by omega) (by omega))), by simp [m2e], by simp [m2e, f21], by simp [m2e, f31], fr3'.tr (Fr.rf.m2 (by omega)), (lk1'.tr lk3').post (by simp [m2e]), fun h => by simp [m2e]; exact e73 h⟩
    replace c3 := Classical.not_not.mp c3
    subst c3
    obtain ⟨X4, go4, a22, a21, a31, fr4, lk4, e74⟩ := ih (i + 1) S3 Y3 X3 hs3 hd3 (by rw [hsta3 4 (by omega)]; exact hfc1) (by omega) (by omega) (by omega) f22 f21 f31 f23 f24 f25 f27
    exact ⟨X4, (((g1.tr go1).tr g2).tr go3).tr go4, a22, a21, a31, fr3'.tr fr4, (lk1'.tr lk3').tr lk4, e74⟩
theorem s_L {n k : Nat} (hW : simW n k) (hL : simL n k) : simL n (k + 1) := by
  intro S Y X x lv d f hs hd hxn hd8 hlv hxl hfu hbud h21 h31
  obtain ⟨fc, hfc3, hfe⟩ := hs.2.2.1 x (by have := hs.1; omega)
  rw [ev2]
  dsimp only
  rw [hfe, nI_clamp (by omega)]
  obtain ⟨X2, go, a22, a21, a31, fr, lk, e7⟩ := lk_sim hW hL (f := f) hxn hd8 hlv hxl hfc3 fc 0 S Y (rf_push X f (nI 2) (nI x) (nI 0)) hs hd hfe (by omega) hfu hbud pu_22 (by rw [pu_o (by omega)]; exact h21) (by rw [pu_o (by omega)]; exact h31) pu_23 pu_24 pu_25 pu_27
  exact ⟨X2, go, a22, a21, a31, (Fr.rf.push (Nat.le_refl _)).tr fr, lk.pre (by rw [pu_o (by omega)]), e7⟩
theorem sim_all (n : Nat) : ∀ k, simW n k ∧ simS n k ∧ simL n k ∧ simK n k := by
  intro k
  induction k using Nat.strongRecOn with
  | ind k ih =>
    refine ⟨?_, ?_, ?_, ?_⟩
    · rcases k with _ | k
      · intro S Y X x d f _ _ _ _ h; omega
      · exact s_W (ih k (by omega)).2.1
    · rcases k with _ | k
      · intro S Y X x d f _ _ _ _ h; omega
      · exact s_S (ih k (by omega)).1 (ih k (by omega)).2.2.1 (ih k (by omega)).2.2.2
    · rcases k with _ | k
      · intro S Y X x lv d f _ _ _ _ _ _ h; omega
      · exact s_L (ih k (by omega)).1 (ih k (by omega)).2.2.1
    · by_cases c : k < 4
      · intro S Y X x q d f _ _ _ _ h1 h2; omega
      · obtain ⟨j, rfl⟩ : ∃ j, k = j + 4 := ⟨k - 4, by omega⟩
        exact s_K (ih (j + 2) (by omega)).1 (ih j (by omega)).2.2.2
