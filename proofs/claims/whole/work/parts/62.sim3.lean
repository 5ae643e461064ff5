/-! THE RUN, 3: one act -/
def simW (n k : Nat) : Prop := ∀ (S Y X : Nat → Nat → Int32) (x d f : Nat), sI n S → dI n S → x < n → d ≤ 8 → 40 * cN S n + 5 * (8 - d) + 1 ≤ k → f + 14 * cN S n + (8 - d) ≤ 280 → X 22 0 = nI f → X 21 0 = nI d → X 31 0 = -1 → Out f d (rf_wantS S (cev S) x, rf_wantX S X f x) Y X (ev k 0 x 0 0 d (S, Y))
def OutS (f d x : Nat) (a : rf_ST) (Y X : Nat → Nat → Int32) (r : Int32 × cST) : Prop := ∃ X2, Go a (r.2.1, X2) ∧ X2 22 0 = nI (f + 1) ∧ X2 21 0 = nI d ∧ X2 31 0 = r.1 ∧ X2 23 f = nI 1 ∧ X2 24 f = nI x ∧ (r.1 = -1 → X2 27 f = nI 3) ∧ Fr f X X2 ∧ Lk Y X r.2.2 X2 ∧ (r.1 = nI 7 → r.2.2 1 0 = X2 19 0)
def simS (n k : Nat) : Prop := ∀ (S Y X : Nat → Nat → Int32) (x d f : Nat), sI n S → dI n S → x < n → d ≤ 8 → 40 * cN S n + 5 * (8 - d) + 30 ≤ k → f + 14 * cN S n + 14 + (8 - d) ≤ 280 → X 21 0 = nI d → X 31 0 = -1 → OutS f d x (S, rf_push X f (nI 1) (nI x) (nI 0)) Y X (ev k 1 x 0 0 d (S, Y))
def simL (n k : Nat) : Prop := ∀ (S Y X : Nat → Nat → Int32) (x lv d f : Nat), sI n S → dI n S → x < n → d ≤ 8 → lv ≤ 12 → x < lv → 40 * cN S n + 5 * (8 - d) + 2 + lv ≤ k → f + 14 * cN S n + (x + 1) + (8 - d) ≤ 280 → X 21 0 = nI d → X 31 0 = -1 → Out f d (S, rf_push X f (nI 2) (nI x) (nI 0)) Y X (ev k 2 x 0 lv d (S, Y))
def simK (n k : Nat) : Prop := ∀ (S Y X : Nat → Nat → Int32) (x q d f : Nat), sI n S → dI n S → x < n → q < 4 → d < 8 → 40 * cN S n + 5 * (8 - d) ≤ k → f + 14 * cN S n + (8 - d) ≤ 280 → X 31 0 = -1 → Out f d (S, rf_push (m2 X 21 0 (nI (d + 1))) f (nI 0) (nI x) (nI q)) Y X (ev k 3 x q 0 d (S, Y))
def OutB (f d x q i ac : Nat) (S Y X : Nat → Nat → Int32) (r : Int32 × cST) : Prop := ∃ (X2 : Nat → Nat → Int32) (gp : Nat) (te : Nat → Nat), Go (S, X) (r.2.1, X2) ∧ X2 22 0 = nI (f + 1) ∧ X2 21 0 = nI (d + 1) ∧ X2 31 0 = r.1 ∧ X2 23 f = nI 0 ∧ X2 24 f = nI x ∧ X2 25 f = nI q ∧ Fr f X X2 ∧ Lk Y X r.2.2 X2 ∧ (r.1 = nI 7 → r.2.2 1 0 = X2 19 0) ∧ (r.1 = -1 → X2 26 f = nI (i + 1) ∧ X2 27 f = nI 0 ∧ Stk (S 11) (4 * x + q) ac (i + 1) f gp te X2) ∧ (¬ r.1 = -1 → Pop (S 11) (4 * x + q) ac i f gp te X2 ∧ (S 11 (aT x q i) = nI 11 → r.1 = nI 10))
theorem not7 {S : Nat → Nat → Int32} {x so : Nat} {ra rb rc : Int32} (h : ¬ sp_areIn so ra rb rc = 0) : ¬ sp_doR S x so ra rb rc = nI 7 := by
  unfold sp_doR
  split
  · unfold sp_divR; split <;> decide
  · unfold sp_rowR; split <;> decide
  · unfold sp_inR; split; decide; split; decide; split <;> decide
  · unfold sp_inR; split; decide; split; decide; split <;> decide
  · obtain ⟨t, ht, rfl⟩ := ar2_yes h
    intro q
    have := (nI_eq (show t < 2 ^ 31 by omega) (show 7 < 2 ^ 31 by omega)).mp q
    omega
  · decide
theorem act_bc {n so p : Nat} {S : Nat → Nat → Int32} (hok : okAct S n p) (hn : n ≤ 12) (hso : S 11 p = nI so) (hso12 : so ≤ 12) (hv : ¬ sp_areIn so (S 11 (p + 1)) (S 11 (p + 2)) (S 11 (p + 3)) = 0) : 1 ≤ so → so ≤ 3 → ∃ z g, z < 12 ∧ g < 4 ∧ S 11 (p + 2) = nI z ∧ S 11 (p + 3) = nI g := by
  intro c1 c3
  obtain ⟨z, hz, hze⟩ := act_z3 hok hso hso12 c1 c3
  obtain ⟨g, hg, hge⟩ := are_f3 hv c1 c3
  exact ⟨z, g, by omega, hg, hze, hge⟩
theorem act_b3 {n so p : Nat} {S : Nat → Nat → Int32} (hok : okAct S n p) (hn : n ≤ 12) (hso : S 11 p = nI so) (hso12 : so ≤ 12) (hv : ¬ sp_areIn so (S 11 (p + 1)) (S 11 (p + 2)) (S 11 (p + 3)) = 0) : 1 ≤ so → so ≤ 3 → ∃ z, z < 12 ∧ S 11 (p + 2) = nI z := by
  intro c1 c3
  obtain ⟨z, g, h1, h2, h3, -⟩ := act_bc hok hn hso hso12 hv c1 c3
  exact ⟨z, h1, h3⟩
section SB
variable {n k : Nat}
set_option maxHeartbeats 4000000 in
theorem s_B (hW : simW n (k + 2)) (hK : simK n k) (S Y X : Nat → Nat → Int32) (x q i d f gc ac : Nat) (te : Nat → Nat) (hs : sI n S) (hd : dI n S) (hxn : x < n) (hq : q < 4) (hd8 : d < 8) (hac : S 10 (4 * x + q) = nI ac) (hac10 : ac ≤ 10) (hia : i < ac) (hbud : f + 14 * cN S n + (8 - d) ≤ 280) (hfu : 40 * cN S n + 5 * (8 - d) ≤ k + 4)
    (h22 : X 22 0 = nI (f + 1)) (h21 : X 21 0 = nI (d + 1)) (h31 : X 31 0 = -1) (h23 : X 23 f = nI 0) (h24 : X 24 f = nI x) (h25 : X 25 f = nI q) (h26 : X 26 f = nI i) (h27 : X 27 f = nI 0) (hst : Stk (S 11) (4 * x + q) ac i f gc te X) : OutB f d x q i ac S Y X (ev (k + 3) 4 x q i (d + 1) (S, Y)) := by
  have hn := hs.1
  have hff : f + 1 < 300 := by omega
  have hix : i < (S 10 (4 * x + q)).toNatClampNeg := by rw [hac, nI_clamp (by omega)]; exact hia
  have hok := sI_act hs hxn hq hix
  obtain ⟨so, hso12, hso, hv⟩ := act_so hok
  have hsoc : (S 11 (aT x q i)).toNatClampNeg = so := by rw [hso, nI_clamp (by omega)]
  obtain ⟨gp, hgp, hp1, hp2⟩ := hst.pop
  have hgi := hst.gi
  obtain ⟨hev, he⟩ := hd.ev
  obtain ⟨wk, hwk80, hwk⟩ := hd.2.1
  have hge : ∀ j, j < gc → X 29 (10 * f + j) = nI (lgE (S 11) (4 * x + q) ac (te j)) ∧ lgE (S 11) (4 * x + q) ac (te j) ≤ 10 := fun j hj => ⟨hst.e29 j hj, Nat.le_trans (Nat.min_le_right _ _) hac10⟩
  have hpop : ∀ j, gp ≤ j → j < gc → lgE (S 11) (4 * x + q) ac (te j) ≤ i := fun j h1 h2 => Nat.le_trans (Nat.min_le_left _ _) (hp2 j h1 h2)
  have htop : gp = 0 ∨ i < lgE (S 11) (4 * x + q) ac (te (gp - 1)) := by
    by_cases c : gp = 0
    · exact Or.inl c
    · exact Or.inr (Nat.lt_min.mpr ⟨by have := hp1 (gp - 1) (by omega); omega, hia⟩)
  have popd : ∀ X2 : Nat → Nat → Int32, X2 28 f = nI gp → (∀ p, p < gp → X2 29 (10 * f + p) = X 29 (10 * f + p)) → (∀ p, p < gp → X2 30 (10 * f + p) = X 30 (10 * f + p)) → Pop (S 11) (4 * x + q) ac i f gp te X2 := fun X2 e1 e2 e3 => hst.popped hgp hp1 hp2 e1 e2 e3
  by_cases c80 : nI 80 ≤ S 17 0
  · -- too much work
    have hwk2 : S 17 0 = nI 80 := by
      rw [hwk] at c80 ⊢
      by_cases c : wk = 80
      · rw [c]
      · exact absurd c80 (nI_ge (by omega) (by omega))
    have hr : ev (k + 3) 4 x q i (d + 1) (S, Y) = (nI 10, (S, Y)) := by rw [ev4, if_pos c80]
    rw [hr]
    refine ⟨m2 (m2 X 28 f (nI gp)) 31 0 (nI 10), gp, te, ?_, by simp [m2e, h22], by simp [m2e, h21], by simp [m2e], by simp [m2e, h23], by simp [m2e, h24], by simp [m2e, h25], (Fr.rf.m2 (by omega)).m2 (by omega), Lk.rf (by simp [m2e]), fun h => absurd h (show ¬ nI 10 = nI 7 by decide), fun h => absurd h (show ¬ nI 10 = -1 by decide), fun _ => ⟨popd _ (by simp [m2e]) (fun p hp => by simp [m2e]) (fun p hp => by simp [m2e]), fun _ => rfl⟩⟩
    refine Go.st h22 (by omega) h31 (fun l G A adr => ?_)
    have h := c_X7_step0 l G A adr S X f x _ _ h22 hff h24 (by omega) h23 (c_X7_goOnW l G A adr S X f x q i gc gp (fun j => lgE (S 11) (4 * x + q) ac (te j)) ac (by omega) h24 (by omega) h25 hq h26 (by omega) hst.h28 (by omega) hge hgp hpop htop hac hia hac10 h27 hwk2)
    rw [ar10] at h
    exact h
  have hwlt : wk < 80 := by
    by_cases c : wk = 80
    · exfalso; rw [hwk, c] at c80; exact c80 (by decide)
    · omega
  have hbg : bgS S = m2 S 17 0 (nI (wk + 1)) := by unfold bgS; rw [hwk, nI_add]
  have hwts : rf_wants (bgS S) so (S 11 (aT x q i + 1)) (S 11 (aT x q i + 2)) (S 11 (aT x q i + 3)) = evW S x q i := by
    unfold evW
    rw [hsoc]
    unfold rf_wants
    rw [show bgS S 7 = S 7 from bgS_sta 7 (by omega)]
  have hev4 : ev (k + 3) 4 x q i (d + 1) (S, Y) = bgN (ev (k + 2)) x q i (d + 1) (if evW S x q i = -1 then (-1, (bgS S, Y)) else ev (k + 2) 0 (evW S x q i).toNatClampNeg 0 0 (d + 1) (bgS S, Y)) := by rw [ev4, if_neg c80]
  have hsb : sI n (bgS S) := hs.to bgS_sta
  have hdb : dI n (bgS S) := bgS_dI hd c80
  have hcb : cN (bgS S) n = cN S n := cN_eq (fun x _ => by rw [hbg, m2_ne (by decide)])
  have hevb : cev (bgS S) = cev S := by rw [hbg, cev, cev, m2_ne (by decide)]
  by_cases cw : evW S x q i = -1
  · -- nothing is wanted
    have h7 : so ≠ 7 := by
      rintro rfl
      obtain ⟨z, hz, hze⟩ := act_z7 hok hso (by omega) (Or.inl rfl)
      rw [evW_7 hso (Or.inl rfl), hze] at cw
      exact nI_m1 (by omega) cw
    rw [hev4, if_pos cw, bgN, if_neg (not_not_intro rfl)]
    by_cases h11 : so = 11
    · -- TRY
      subst h11
      have hta : (S 11 (aT x q i + 1)).toNatClampNeg ≤ 9 := act_t hok hso
      obtain ⟨ta, hta9, htae⟩ : ∃ ta, ta ≤ 9 ∧ S 11 (aT x q i + 1) = nI ta := by
        have hv2 := hv
        unfold sp_areIn at hv2
        by_cases c1 : S 11 (aT x q i + 1) < nI 1
        · rw [if_pos c1] at hv2; exact absurd rfl hv2
        · rw [if_neg c1] at hv2
          by_cases c9 : nI 9 < S 11 (aT x q i + 1)
          · rw [if_pos c9] at hv2; exact absurd rfl hv2
          · obtain ⟨j, -, hj2, hj3⟩ := ix_in (by decide) (by decide) c1 c9
            exact ⟨j, hj2, hj3⟩
      have hr : ev (k + 2) 5 x q i (d + 1) (bgS S, Y) = (-1, (bgS S, Y)) := by
        rw [ev5, if_neg (by show ¬ (bgS S 11 (aT x q i)).toNatClampNeg = 7; rw [bgS_sta 11 (by omega), hsoc]; decide), if_pos (by show (bgS S 11 (aT x q i)).toNatClampNeg = 11; rw [bgS_sta 11 (by omega), hsoc])]
      rw [hr]
      have hgp9 : gp < 10 := by omega
      have htac : (S 11 (40 * (4 * x + q) + 4 * i + 1)).toNatClampNeg = ta := by rw [show S 11 (40 * (4 * x + q) + 4 * i + 1) = nI ta from htae, nI_clamp (by omega)]
      have hpp := popd (m2 X 28 f (nI gp)) (by simp [m2e]) (fun p hp => by simp [m2e]) (fun p hp => by simp [m2e])
      by_cases g0 : gp = 0
      · refine ⟨_, gp + 1, fun p => if p = gp then i else te p, Go.st h22 (by omega) h31 (fun l G A adr => c_X7_step0 l G A adr S X f x _ _ h22 hff h24 (by omega) h23 (by
          rw [hbg]
          exact c_X7_goOnT0 l G A adr S X f x q i gc gp (fun j => lgE (S 11) (4 * x + q) ac (te j)) ac ta wk _ _ (by omega) h24 (by omega) h25 hq h26 (by omega) hst.h28 (by omega) hge hgp hpop htop hac hia hac10 hso htae rfl rfl hta9 h27 hwk hwlt hgp9 g0)), by simp [m2e, h22], by simp [m2e, h21], by simp [m2e, h31], by simp [m2e, h23], by simp [m2e, h24], by simp [m2e, h25], ?_, Lk.rf (by simp [m2e]), fun h => absurd h (show ¬ (-1 : Int32) = nI 7 by decide), fun _ => ⟨by simp [m2e], by simp [m2e], ?_⟩, fun h => absurd rfl h⟩
        · exact (((((((Fr.rf.m2 (by omega)).m2 (by omega)).m2 (by omega)).m2 (by omega)).m2 (by omega)).m2 (by omega)).m2 (by omega))
        · refine hpp.try hia hso (by simp [m2e]) (fun p hp => ?_) (fun p hp => ?_) (by simp [m2e, aT]) htac (v := if i + 1 + ta < ac then i + 1 + ta else ac) ?_ (by simp [m2e])
          · simp [m2e]; omega
          · simp [m2e]; omega
          · rw [if_pos g0, show Nat.min (i + 1 + ta) ac = min (i + 1 + ta) ac from rfl, Nat.min_def]
            split <;> split <;> omega
      · refine ⟨_, gp + 1, fun p => if p = gp then i else te p, Go.st h22 (by omega) h31 (fun l G A adr => c_X7_step0 l G A adr S X f x _ _ h22 hff h24 (by omega) h23 (by
          rw [hbg]
          exact c_X7_goOnT1 l G A adr S X f x q i gc gp (fun j => lgE (S 11) (4 * x + q) ac (te j)) ac ta wk _ _ (by omega) h24 (by omega) h25 hq h26 (by omega) hst.h28 (by omega) hge hgp hpop htop hac hia hac10 hso htae rfl rfl hta9 h27 hwk hwlt hgp9 (by omega))), by simp [m2e, h22], by simp [m2e, h21], by simp [m2e, h31], by simp [m2e, h23], by simp [m2e, h24], by simp [m2e, h25], ?_, Lk.rf (by simp [m2e]), fun h => absurd h (show ¬ (-1 : Int32) = nI 7 by decide), fun _ => ⟨by simp [m2e], by simp [m2e], ?_⟩, fun h => absurd rfl h⟩
        · exact (((((((Fr.rf.m2 (by omega)).m2 (by omega)).m2 (by omega)).m2 (by omega)).m2 (by omega)).m2 (by omega)).m2 (by omega))
        · refine hpp.try hia hso (by simp [m2e]) (fun p hp => ?_) (fun p hp => ?_) (by simp [m2e, aT]) htac (v := if i + 1 + ta < lgE (S 11) (4 * x + q) ac (te (gp - 1)) then i + 1 + ta else lgE (S 11) (4 * x + q) ac (te (gp - 1))) ?_ (by simp [m2e])
          · simp [m2e]; omega
          · simp [m2e]; omega
          · rw [if_neg g0, show Nat.min (i + 1 + ta) (lgE (S 11) (4 * x + q) ac (te (gp - 1))) = min (i + 1 + ta) (lgE (S 11) (4 * x + q) ac (te (gp - 1))) from rfl, Nat.min_def]
            split <;> split <;> omega
    · -- a plain act
      have hr : ev (k + 2) 5 x q i (d + 1) (bgS S, Y) = (sp_doR (bgS S) x so (S 11 (aT x q i + 1)) (S 11 (aT x q i + 2)) (S 11 (aT x q i + 3)), (sp_doS (bgS S) (cev S) x so (S 11 (aT x q i + 1)) (S 11 (aT x q i + 2)) (S 11 (aT x q i + 3)), Y)) := by
        have e11 : bgS S 11 = S 11 := bgS_sta 11 (by omega)
        rw [ev5, if_neg (by show ¬ (bgS S 11 (aT x q i)).toNatClampNeg = 7; rw [e11, hsoc]; exact h7), if_neg (by show ¬ (bgS S 11 (aT x q i)).toNatClampNeg = 11; rw [e11, hsoc]; exact h11)]
        dsimp only
        rw [e11, hsoc, hevb]
      rw [hr]
      refine ⟨_, gp, te, Go.st h22 (by omega) h31 (fun l G A adr => c_X7_step0 l G A adr S X f x _ _ h22 hff h24 (by omega) h23 (by
          rw [hbg]
          exact c_X7_goOnD0 l G A adr S X f x q i gc gp (fun j => lgE (S 11) (4 * x + q) ac (te j)) ac so wk _ _ _ (cev S) (by omega) h24 (by omega) h25 hq h26 (by omega) hst.h28 (by omega) hge hgp hpop htop hac hia hac10 hso rfl rfl rfl hso12 h27 hwk hwlt (act_bc hok hn hso hso12 hv) (by rw [← hbg]; exact hwts.trans cw) hev he h7 h11 hv (act_b3 hok hn hso hso12 hv) hd.2.2.1)), by simp [m2e, h22], by simp [m2e, h21], by simp [m2e, hbg], by simp [m2e, h23], by simp [m2e, h24], by simp [m2e, h25], ?_, Lk.rf (by simp [m2e]), fun h => absurd h (not7 hv), fun _ => ⟨by simp [m2e], by simp [m2e], ?_⟩, fun _ => ⟨?_, fun h => absurd ((nI_eq (by omega) (by omega)).mp (hso.symm.trans h)) h11⟩⟩
      · exact (((((Fr.rf.m2 (by omega)).m2 (by omega)).m2 (by omega)).m2 (by omega)).m2 (by omega))
      · exact (popd (m2 X 28 f (nI gp)) (by simp [m2e]) (fun p hp => by simp [m2e]) (fun p hp => by simp [m2e])).next (fun h => h11 ((nI_eq (by omega) (by omega)).mp (hso.symm.trans h))) (by simp [m2e]) (fun p hp => by simp [m2e]) (fun p hp => by simp [m2e])
      · exact popd _ (by simp [m2e]) (fun p hp => by simp [m2e]) (fun p hp => by simp [m2e])
  · -- something is wanted first
    obtain ⟨hzn, hze⟩ := evW_z hok hn cw
    rw [hev4, if_neg cw]
    generalize hzz : (evW S x q i).toNatClampNeg = z at hzn hze
    obtain ⟨X1, hX1⟩ : ∃ X1, X1 = m2 (m2 X 28 f (nI gp)) 27 f (nI 1) := ⟨_, rfl⟩
    have g1 : Go (S, X) (rf_wantS (bgS S) (cev (bgS S)) z, rf_wantX (bgS S) X1 (f + 1) z) := by
      refine Go.st h22 (by omega) h31 (fun l G A adr => c_X7_step0 l G A adr S X f x _ _ h22 hff h24 (by omega) h23 ?_)
      rw [hevb, hbg, hX1]
      exact c_X7_goOnZ l G A adr S X f x q i gc gp (fun j => lgE (S 11) (4 * x + q) ac (te j)) ac so wk z (cev S) _ _ _ (by omega) h24 (by omega) h25 hq h26 (by omega) hst.h28 (by omega) hge hgp hpop htop hac hia hac10 hso rfl rfl rfl hso12 h27 hwk hwlt (act_bc hok hn hso hso12 hv) (by rw [← hbg]; exact hwts.trans hze) (by omega) hev he h22 hff
    have fr1 : Fr f X X1 := by rw [hX1]; exact (Fr.rf.m2 (by omega)).m2 (by omega)
    obtain ⟨X2, go2, e22, e21, e31, fr2, lk2, e72⟩ := hW (bgS S) Y X1 z (d + 1) (f + 1) hsb hdb hzn (by omega) (by rw [hcb]; omega) (by rw [hcb]; omega) (by rw [hX1]; simp [m2e, h22]) (by rw [hX1]; simp [m2e, h21]) (by rw [hX1]; simp [m2e, h31])
    have hgood := ev_ok n (k + 2) 0 z 0 0 (d + 1) (bgS S, Y) hsb hdb hzn (by omega) (fun h => by omega)
    generalize hr0 : ev (k + 2) 0 z 0 0 (d + 1) (bgS S, Y) = r0 at go2 e31 lk2 e72 hgood ⊢
    have c23 : X2 23 f = nI 0 := (fr2.1 23 f (by omega) (by omega) (by omega)).trans (by rw [hX1]; simp [m2e, h23])
    have c24 : X2 24 f = nI x := (fr2.1 24 f (by omega) (by omega) (by omega)).trans (by rw [hX1]; simp [m2e, h24])
    have c25 : X2 25 f = nI q := (fr2.1 25 f (by omega) (by omega) (by omega)).trans (by rw [hX1]; simp [m2e, h25])
    have c26 : X2 26 f = nI i := (fr2.1 26 f (by omega) (by omega) (by omega)).trans (by rw [hX1]; simp [m2e, h26])
    have c27 : X2 27 f = nI 1 := (fr2.1 27 f (by omega) (by omega) (by omega)).trans (by rw [hX1]; simp [m2e])
    have c28 : X2 28 f = nI gp := (fr2.1 28 f (by omega) (by omega) (by omega)).trans (by rw [hX1]; simp [m2e])
    have c29 : ∀ p, p < gp → X2 29 (10 * f + p) = X 29 (10 * f + p) := fun p hp => (fr2.2 29 _ (by omega) (by omega) (by omega)).trans (by rw [hX1]; simp [m2e])
    have c30 : ∀ p, p < gp → X2 30 (10 * f + p) = X 30 (10 * f + p) := fun p hp => (fr2.2 30 _ (by omega) (by omega) (by omega)).trans (by rw [hX1]; simp [m2e])
    have fr3 : Fr f X X2 := fr1.tr (fr2.le (by omega))
    have lk3 : Lk Y X r0.2.2 X2 := lk2.pre (by rw [hX1]; simp [m2e])
    have h11 : so ≠ 11 := by
      rintro rfl
      exact cw (evW_0 hso (by omega) (by omega) (by omega) (by omega))
    have hn11 : ¬ S 11 (40 * (4 * x + q) + 4 * i) = nI 11 := fun h => h11 ((nI_eq (by omega) (by omega)).mp (hso.symm.trans h))
    clear hX1 fr1 fr2 lk2
    by_cases c0 : ¬ r0.1 = -1
    · rw [bgN, if_pos c0]
      exact ⟨X2, gp, te, g1.tr go2, e22, e21, e31, c23, c24, c25, fr3, lk3, e72, fun h => absurd h c0, fun _ => ⟨popd X2 c28 c29 c30, fun h => absurd h hn11⟩⟩
    replace c0 := Classical.not_not.mp c0
    rw [bgN, if_neg (not_not_intro c0)]
    obtain ⟨w0, S2, Y2⟩ := r0
    dsimp only at c0 go2 e31 lk3 e72 hgood ⊢
    subst c0
    obtain ⟨hsta, hmon, hd2, -⟩ := hgood
    dsimp only at hsta hmon hd2
    have hs2 : sI n S2 := hsb.to hsta
    have e11 : S2 11 = S 11 := (hsta 11 (by omega)).trans (bgS_sta 11 (by omega))
    have e10 : S2 10 = S 10 := (hsta 10 (by omega)).trans (bgS_sta 10 (by omega))
    have hc2 : cN S2 n ≤ cN S n := by rw [← hcb]; exact cN_le hmon
    obtain ⟨hev2, he2⟩ := hd2.ev
    have hge2 : ∀ j, j < gp → X2 29 (10 * f + j) = nI (lgE (S 11) (4 * x + q) ac (te j)) ∧ lgE (S 11) (4 * x + q) ac (te j) ≤ 10 := fun j hj => ⟨(c29 j hj).trans (hge j (by omega)).1, (hge j (by omega)).2⟩
    have hac2 : S2 10 (4 * x + q) = nI ac := by rw [e10]; exact hac
    have hso2 : S2 11 (40 * (4 * x + q) + 4 * i) = nI so := by rw [e11]; exact hso
    by_cases h7 : so = 7
    · subst h7
      obtain ⟨z', hz', hze'⟩ := act_z7 hok hso (by omega) (Or.inl rfl)
      have hzz' : z' = z := by
        rw [evW_7 hso (Or.inl rfl), hze'] at hze
        exact (nI_eq (by omega) (by omega)).mp hze
      subst hzz'
      obtain ⟨g, hg, hgg⟩ := are_7 hv
      have hr : ev (k + 2) 5 x q i (d + 1) (S2, Y2) = ev (k + 1) 6 z' g 0 (d + 1) (S2, Y2) := by
        rw [ev5, if_pos (by show (S2 11 (aT x q i)).toNatClampNeg = 7; rw [e11, hsoc])]
        dsimp only
        rw [e11, hze', hgg, nI_clamp (by omega), nI_clamp (by omega)]
      rw [hr, ev6]
      obtain ⟨X3, hX3⟩ : ∃ X3, X3 = m2 (m2 (m2 X2 28 f (nI gp)) 27 f (nI 0)) 26 f (nI (i + 1)) := ⟨_, rfl⟩
      have fr23 : Fr f X2 X3 := by rw [hX3]; exact ((Fr.rf.m2 (by omega)).m2 (by omega)).m2 (by omega)
      by_cases c8 : d + 1 < 8
      · rw [if_pos c8]
        dsimp only
        have g2 : Go (S2, X2) (sp_tell S2 (cev S2) (nI 4) (nI (10 * z' + g)), rf_push (m2 X3 21 0 (nI (d + 1 + 1))) (f + 1) (nI 0) (nI z') (nI g)) := by
          refine Go.st e22 (by omega) e31 (fun l G A adr => c_X7_step0 l G A adr S2 X2 f x _ _ e22 hff c24 (by omega) c23 ?_)
          have h := c_X7_goOnC l G A adr S2 X2 f x q i gp gp (fun j => lgE (S 11) (4 * x + q) ac (te j)) ac z' g (cev S2) (d + 1) (by omega) c24 (by omega) c25 hq c26 (by omega) c28 (by omega) hge2 (Nat.le_refl _) (fun j h1 h2 => by omega) htop hac2 hia hac10 hso2 (by rw [e11]; exact hze') (by rw [e11]; exact hgg) (by omega) hg c27 hev2 he2 e22 hff e21 (by omega) c8
          rw [rf_entS, if_neg (by omega), rf_entX, if_neg (by omega), ← hX3] at h
          exact h
        have hts : sI n (sp_tell S2 (cev S2) (nI 4) (nI (10 * z' + g))) := hs2.to tell_sta
        have htc : cN (sp_tell S2 (cev S2) (nI 4) (nI (10 * z' + g))) n = cN S2 n := cN_eq (fun y _ => by rw [sp_tell_ne (by decide) (by decide) (by decide)])
        obtain ⟨X4, go4, a22, a21, a31, fr4, lk4, e74⟩ := hK (sp_tell S2 (cev S2) (nI 4) (nI (10 * z' + g))) Y2 X3 z' g (d + 1) (f + 1) hts (tell_dI hd2) hz' hg c8 (by rw [htc]; omega) (by rw [htc]; omega) (by rw [hX3]; simp [m2e, e31])
        generalize ev k 3 z' g 0 (d + 1) (sp_tell S2 (cev S2) (nI 4) (nI (10 * z' + g)), Y2) = r4 at go4 a31 lk4 e74 ⊢
        have b26 : X4 26 f = nI (i + 1) := (fr4.1 26 f (by omega) (by omega) (by omega)).trans (by rw [hX3]; simp [m2e])
        have b27 : X4 27 f = nI 0 := (fr4.1 27 f (by omega) (by omega) (by omega)).trans (by rw [hX3]; simp [m2e])
        have b28 : X4 28 f = nI gp := (fr4.1 28 f (by omega) (by omega) (by omega)).trans (by rw [hX3]; simp [m2e])
        have b29 : ∀ p, p < gp → X4 29 (10 * f + p) = X2 29 (10 * f + p) := fun p hp => (fr4.2 29 _ (by omega) (by omega) (by omega)).trans (by rw [hX3]; simp [m2e])
        have b30 : ∀ p, p < gp → X4 30 (10 * f + p) = X2 30 (10 * f + p) := fun p hp => (fr4.2 30 _ (by omega) (by omega) (by omega)).trans (by rw [hX3]; simp [m2e])
        refine ⟨X4, gp, te, ((g1.tr go2).tr g2).tr go4, a22, a21, a31, (fr4.1 23 f (by omega) (by omega) (by omega)).trans (by rw [hX3]; simp [m2e, c23]), (fr4.1 24 f (by omega) (by omega) (by omega)).trans (by rw [hX3]; simp [m2e, c24]), (fr4.1 25 f (by omega) (by omega) (by omega)).trans (by rw [hX3]; simp [m2e, c25]), (fr3.tr fr23).tr (fr4.le (by omega)), lk3.tr (lk4.pre (by rw [hX3]; simp [m2e])), e74, fun _ => ⟨b26, b27, ?_⟩, fun _ => ⟨?_, fun h => absurd h hn11⟩⟩
        · exact (popd X2 c28 c29 c30).next hn11 (b28.trans c28.symm) b29 b30
        · exact popd X4 b28 (fun p hp => (b29 p hp).trans (c29 p hp)) (fun p hp => (b30 p hp).trans (c30 p hp))
      · rw [if_neg c8]
        have g2 : Go (S2, X2) (sp_ar S2 (nI 9), m2 X3 31 0 (nI 9)) := by
          refine Go.st e22 (by omega) e31 (fun l G A adr => c_X7_step0 l G A adr S2 X2 f x _ _ e22 hff c24 (by omega) c23 ?_)
          have h := c_X7_goOnO l G A adr S2 X2 f x q i gp gp (fun j => lgE (S 11) (4 * x + q) ac (te j)) ac z' g (cev S2) (d + 1) (by omega) c24 (by omega) c25 hq c26 (by omega) c28 (by omega) hge2 (Nat.le_refl _) (fun j h1 h2 => by omega) htop hac2 hia hac10 hso2 (by rw [e11]; exact hze') (by rw [e11]; exact hgg) (by omega) hg c27 hev2 he2 e22 hff e21 (by omega) c8
          rw [rf_entS, if_pos (by omega), rf_entX, if_pos (by omega), ← hX3] at h
          exact h
        refine ⟨m2 X3 31 0 (nI 9), gp, te, (g1.tr go2).tr g2, by rw [hX3]; simp [m2e, e22], by rw [hX3]; simp [m2e, e21], by simp [m2e], by rw [hX3]; simp [m2e, c23], by rw [hX3]; simp [m2e, c24], by rw [hX3]; simp [m2e, c25], (fr3.tr fr23).tr (Fr.rf.m2 (by omega)), lk3.post (by rw [hX3]; simp [m2e]), fun h => absurd h (show ¬ nI 9 = nI 7 by decide), fun h => absurd h (show ¬ nI 9 = -1 by decide), fun _ => ⟨popd _ (by rw [hX3]; simp [m2e]) (fun p hp => by rw [hX3]; simp [m2e, c29 p hp]) (fun p hp => by rw [hX3]; simp [m2e, c30 p hp]), fun h => absurd h hn11⟩⟩
    · have hr : ev (k + 2) 5 x q i (d + 1) (S2, Y2) = (sp_doR S2 x so (S 11 (aT x q i + 1)) (S 11 (aT x q i + 2)) (S 11 (aT x q i + 3)), (sp_doS S2 (cev S2) x so (S 11 (aT x q i + 1)) (S 11 (aT x q i + 2)) (S 11 (aT x q i + 3)), Y2)) := by
        rw [ev5, if_neg (by show ¬ (S2 11 (aT x q i)).toNatClampNeg = 7; rw [e11, hsoc]; exact h7), if_neg (by show ¬ (S2 11 (aT x q i)).toNatClampNeg = 11; rw [e11, hsoc]; exact h11)]
        dsimp only
        rw [e11, hsoc]
      rw [hr]
      have g2 : Go (S2, X2) (sp_doS S2 (cev S2) x so (S 11 (aT x q i + 1)) (S 11 (aT x q i + 2)) (S 11 (aT x q i + 3)), m2 (m2 (m2 (m2 X2 28 f (nI gp)) 27 f (nI 0)) 26 f (nI (i + 1))) 31 0 (sp_doR S2 x so (S 11 (aT x q i + 1)) (S 11 (aT x q i + 2)) (S 11 (aT x q i + 3)))) :=
        Go.st e22 (by omega) e31 (fun l G A adr => c_X7_step0 l G A adr S2 X2 f x _ _ e22 hff c24 (by omega) c23 (c_X7_goOnD1 l G A adr S2 X2 f x q i gp gp (fun j => lgE (S 11) (4 * x + q) ac (te j)) ac so _ _ _ (cev S2) (by omega) c24 (by omega) c25 hq c26 (by omega) c28 (by omega) hge2 (Nat.le_refl _) (fun j h1 h2 => by omega) htop hac2 hia hac10 hso2 (by rw [e11]; rfl) (by rw [e11]; rfl) (by rw [e11]; rfl) hso12 c27 hev2 he2 h7 h11 hv (act_b3 hok hn hso hso12 hv) hd2.2.2.1))
      refine ⟨_, gp, te, (g1.tr go2).tr g2, by simp [m2e, e22], by simp [m2e, e21], by simp [m2e], by simp [m2e, c23], by simp [m2e, c24], by simp [m2e, c25], fr3.tr ((((Fr.rf.m2 (by omega)).m2 (by omega)).m2 (by omega)).m2 (by omega)), lk3.post (by simp [m2e]), fun h => absurd h (not7 hv), fun _ => ⟨by simp [m2e], by simp [m2e], ?_⟩, fun _ => ⟨?_, fun h => absurd h hn11⟩⟩
      · exact (popd X2 c28 c29 c30).next hn11 (by simp [m2e, c28]) (fun p hp => by simp [m2e]) (fun p hp => by simp [m2e])
      · exact popd _ (by simp [m2e]) (fun p hp => by simp [m2e, c29 p hp]) (fun p hp => by simp [m2e, c30 p hp])
end SB
