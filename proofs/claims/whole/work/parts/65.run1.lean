/-! THE RUN, 7: run from the first frame on -/
theorem cN12 {n : Nat} {S : Nat → Nat → Int32} (hs : sI n S) : cN S n ≤ 12 := Nat.le_trans (cN_n S n) hs.1
theorem run_sim {n x q : Nat} {S Y X : Nat → Nat → Int32} (hs : sI n S) (hd : dI n S) (hxn : x < n) (hq1 : 1 ≤ q) (hq3 : q ≤ 3) : ∃ k X9, rf_Run k (rf_runS S, rf_runX X x q) ((ex2 S Y x q).2.1, X9) ∧ X9 22 0 = nI 0 ∧ X9 31 0 = (ex2 S Y x q).1 ∧ ((ex2 S Y x q).1 = nI 7 → (ex2 S Y x q).2.2 1 0 = X9 19 0) ∧ (∀ k, k ≠ 1 → (ex2 S Y x q).2.2 k = exY Y k) ∧ sta S (ex2 S Y x q).2.1 ∧ dI n (ex2 S Y x q).2.1 := by
  have hn := hs.1
  have hs0 := hs.to run_sta
  have hd0 := run_dI hd
  unfold ex2 ex1
  generalize hT : rf_runS S = T at hs0 hd0
  have hT0 : sta S T := by rw [← hT]; exact run_sta
  have hc0 := cN12 hs0
  obtain ⟨hev, he⟩ := hd0.ev
  obtain ⟨X0, hX0⟩ : ∃ X0, X0 = rf_runX X x q := ⟨_, rfl⟩
  rw [← hX0]
  have a22 : X0 22 0 = nI (0 + 1) := by rw [hX0, rf_runX]; exact pu_22
  have a21 : X0 21 0 = nI 0 := by rw [hX0, rf_runX, pu_o (by omega)]; simp [m2e]
  have a31 : X0 31 0 = -1 := by rw [hX0, rf_runX, pu_o (by omega)]; simp [m2e]
  have a23 : X0 23 0 = nI 3 := by rw [hX0, rf_runX]; exact pu_23
  have a24 : X0 24 0 = nI x := by rw [hX0, rf_runX]; exact pu_24
  have a25 : X0 25 0 = nI q := by rw [hX0, rf_runX]; exact pu_25
  have a27 : X0 27 0 = nI 0 := by rw [hX0, rf_runX]; exact pu_27
  clear hX0
  have g1 : Go (T, X0) (rf_wantS T (cev T) x, rf_wantX T (m2 X0 27 0 (nI 1)) (0 + 1) x) := Go.st a22 (by omega) a31 (fun l G A adr => c_X7_step3a l G A adr T X0 0 x (cev T) a22 (by omega) a24 (by omega) a23 a27 hev he)
  obtain ⟨X1, go1, b22, b21, b31, fr1, lk1, e71⟩ := (sim_all n 530).1 T (exY Y) (m2 X0 27 0 (nI 1)) x 0 (0 + 1) hs0 hd0 hxn (by omega) (by omega) (by omega) (by simp [m2e, a22]) (by simp [m2e, a21]) (by simp [m2e, a31])
  have good1 := ev_ok n 530 0 x 0 0 0 (T, exY Y) hs0 hd0 hxn (by omega) (fun h => by omega)
  generalize ev 530 0 x 0 0 0 (T, exY Y) = r1 at go1 b31 lk1 e71 good1 ⊢
  obtain ⟨w1, S1, Y1⟩ := r1
  obtain ⟨hsta1, hmon1, hd1, hthr1⟩ := good1
  dsimp only at go1 b31 lk1 e71 hsta1 hmon1 hd1 hthr1 ⊢
  have hs1 := hs0.to hsta1
  have hc1 := cN12 hs1
  have c23 : X1 23 0 = nI 3 := (fr1.1 23 0 (by omega) (by omega) (by omega)).trans (by simp [m2e, a23])
  have c24 : X1 24 0 = nI x := (fr1.1 24 0 (by omega) (by omega) (by omega)).trans (by simp [m2e, a24])
  have c25 : X1 25 0 = nI q := (fr1.1 25 0 (by omega) (by omega) (by omega)).trans (by simp [m2e, a25])
  have c27 : X1 27 0 = nI 1 := (fr1.1 27 0 (by omega) (by omega) (by omega)).trans (by simp [m2e])
  by_cases w : w1 = -1
  · rw [if_pos w]
    subst w
    have g2 : Go (S1, X1) (S1, rf_push (m2 (m2 X1 27 0 (nI 2)) 21 0 (nI (0 + 1))) (0 + 1) (nI 0) (nI x) (nI q)) := Go.st b22 (by omega) b31 (fun l G A adr => by
      have h := c_X7_step3b l G A adr S1 X1 0 x 0 q b22 (by omega) c24 (by omega) c23 c27 b21 (by omega) c25
      rw [rf_entS, if_neg (by omega), rf_entX, if_neg (by omega)] at h
      exact h)
    obtain ⟨X2, go2, d22, d21, d31, fr2, lk2, e72⟩ := (sim_all n 530).2.2.2 S1 Y1 (m2 X1 27 0 (nI 2)) x q 0 (0 + 1) hs1 hd1 hxn (by omega) (by omega) (by omega) (by omega) (by simp [m2e, b31])
    have good2 := ev_ok n 530 3 x q 0 0 (S1, Y1) hs1 hd1 hxn (by omega) (fun h => by omega)
    generalize ev 530 3 x q 0 0 (S1, Y1) = r2 at go2 d31 lk2 e72 good2 ⊢
    obtain ⟨w2, S2, Y2⟩ := r2
    obtain ⟨hsta2, hmon2, hd2, hthr2⟩ := good2
    dsimp only at go2 d31 lk2 e72 hsta2 hmon2 hd2 hthr2 ⊢
    have f23 : X2 23 0 = nI 3 := (fr2.1 23 0 (by omega) (by omega) (by omega)).trans (by simp [m2e, c23])
    have f24 : X2 24 0 = nI x := (fr2.1 24 0 (by omega) (by omega) (by omega)).trans (by simp [m2e, c24])
    have f27 : X2 27 0 = nI 2 := (fr2.1 27 0 (by omega) (by omega) (by omega)).trans (by simp [m2e])
    have hk : ∀ k, k ≠ 1 → Y2 k = exY Y k := fun k h => (lk2.1 k h).trans (lk1.1 k h)
    have hg := ((g1.tr go1).tr g2).tr go2
    by_cases c : w2 = -1
    · obtain ⟨k, hk2⟩ := hg.tr (Go.st d22 (by omega) (by rw [d31]; exact c) (fun l G A adr => c_X7_step3c l G A adr S2 X2 0 x d22 (by omega) f24 (by omega) f23 f27))
      exact ⟨k, _, hk2, by simp [m2e], by simp [m2e, d31], fun h => by simp [m2e]; exact e72 h, hk, (hT0.tr hsta1).tr hsta2, hd2⟩
    · obtain ⟨k, hk2⟩ := hg.tr (Go.fl d22 (by omega) (by rw [d31]; exact c) (fun l G A adr => c_X7_flyO l G A adr S2 X2 0 x 3 w2 d22 (by omega) f24 d31 f23 (by omega) (by omega)))
      exact ⟨k, _, hk2, by simp [m2e], by simp [m2e, d31], fun h => by simp [m2e]; exact e72 h, hk, (hT0.tr hsta1).tr hsta2, hd2⟩
  · rw [if_neg w]
    obtain ⟨k, hk2⟩ := (g1.tr go1).tr (Go.fl b22 (by omega) (by rw [b31]; exact w) (fun l G A adr => c_X7_flyO l G A adr S1 X1 0 x 3 w1 b22 (by omega) c24 b31 c23 (by omega) (by omega)))
    exact ⟨k, _, hk2, by simp [m2e], by simp [m2e, b31], fun h => by simp [m2e]; exact e71 h, lk1.1, hT0.tr hsta1, hd1⟩
