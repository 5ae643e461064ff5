/-! CLASS AND REFERENCE SIDE BY SIDE, 3: act -/
section P3
variable {n : Nat} {S Y X : Nat → Nat → Int32} {L : Int64}
theorem bad_0 {M x2 x3 x4 : Int32} (h : ¬ sp_bad M x2 x3 x4 = 0) : (¬ x2 < nI 1 ∧ ¬ nI 3 < x2 ∧ sp_has M x4 = 0) ∨ ((x2 = nI 7 ∨ x2 = nI 8) ∧ sp_has M x3 = 0) := by
  unfold sp_bad at h
  apply Classical.byContradiction
  intro c
  rw [if_neg c] at h
  exact h rfl
theorem bad_n {M x2 x3 x4 : Int32} (h : sp_bad M x2 x3 x4 = 0) : ¬ ((¬ x2 < nI 1 ∧ ¬ nI 3 < x2 ∧ sp_has M x4 = 0) ∨ ((x2 = nI 7 ∨ x2 = nI 8) ∧ sp_has M x3 = 0)) := by
  intro c
  unfold sp_bad at h
  rw [if_pos c] at h
  exact absurd h (by decide)
theorem nmZ_ex {x : Nat} {x2 x3 x4 : Int32} (hs : sI n S) (hx : x < n) (h : sp_bad (S 0 0) x2 x3 x4 = 0) : ∃ z, z < n ∧ nmZ x z x2 x3 x4 := by
  have hb := bad_n h
  by_cases c : ¬ x2 < nI 1 ∧ ¬ nI 3 < x2
  · obtain ⟨so, h1, h3, he⟩ := ix_in (by decide) (by decide) c.1 c.2
    obtain ⟨z, hz, hze⟩ := has_yes hs.2.1 hs.1 (fun q => hb (Or.inl ⟨c.1, c.2, q⟩))
    exact ⟨z, hz, Or.inl ⟨so, h1, h3, he, hze⟩⟩
  · by_cases d : x2 = nI 7 ∨ x2 = nI 8
    · obtain ⟨z, hz, hze⟩ := has_yes hs.2.1 hs.1 (fun q => hb (Or.inr ⟨d, q⟩))
      rcases d with d | d
      · exact ⟨z, hz, Or.inr (Or.inl ⟨7, Or.inl rfl, d, hze⟩)⟩
      · exact ⟨z, hz, Or.inr (Or.inl ⟨8, Or.inr rfl, d, hze⟩)⟩
    · refine ⟨x, hx, Or.inr (Or.inr ⟨fun j hj e => ?_, rfl⟩)⟩
      rcases hj with ⟨h1, h3⟩ | h7 | h8
      · exact c ⟨by rw [e]; exact nI_nlt h1 (by omega), by rw [e]; exact nI_nlt h3 (by omega)⟩
      · exact d (Or.inl (by rw [e, h7]))
      · exact d (Or.inr (by rw [e, h8]))
theorem nmZ_so {x z so : Nat} {x3 x4 : Int32} (hso : so ≤ 12) (h : nmZ x z (nI so) x3 x4) : (1 ≤ so ∧ so ≤ 3 → x4 = nI z) ∧ (so = 7 ∨ so = 8 → x3 = nI z) ∧ (¬ (1 ≤ so ∧ so ≤ 3) → ¬ (so = 7 ∨ so = 8) → z = x) := by
  rcases h with ⟨s2, h1, h3, he, hz⟩ | ⟨s2, h7, he, hz⟩ | ⟨hn, hz⟩
  · have e : so = s2 := (nI_eq (by omega) (by omega)).mp he
    subst e
    exact ⟨fun _ => hz, fun q => by omega, fun q _ => absurd ⟨h1, h3⟩ q⟩
  · have e : so = s2 := (nI_eq (by omega) (by omega)).mp he
    subst e
    exact ⟨fun q => by omega, fun _ => hz, fun _ q => absurd h7 q⟩
  · exact ⟨fun q => absurd rfl (hn so (Or.inl q)), fun q => absurd rfl (hn so (Or.inr q)), fun _ _ => hz⟩
theorem are_11 {a b c : Int32} (h : ¬ sp_areIn 11 a b c = 0) : ∃ t, t ≤ 9 ∧ a = nI t := by
  unfold sp_areIn at h
  by_cases c1 : a < nI 1
  · rw [if_pos c1] at h; exact absurd rfl h
  · rw [if_neg c1] at h
    by_cases c9 : nI 9 < a
    · rw [if_pos c9] at h; exact absurd rfl h
    · obtain ⟨j, -, h2, h3⟩ := ix_in (by decide) (by decide) c1 c9
      exact ⟨j, h2, h3⟩
theorem iv_act {x z q so ac : Nat} {x3 x4 x5 : Int32} (h : iv n S Y X) (hx : x < n) (hz : z < n) (hZ : nmZ x z (nI so) x3 x4) (hq : q < 4) (hso : so ≤ 12) (hin : ¬ sp_areIn so x3 x4 x5 = 0) (hac : S 10 (4 * x + q) = nI ac) (h10 : ac < 10) : iv n (sp_act2 S (4 * x + q) ac (nI so) x3 x4 x5) Y X := by
  obtain ⟨hs, hd, hzi, hy, hpi, hl⟩ := h
  obtain ⟨z3, z7, -⟩ := nmZ_so hso hZ
  have e : ∀ k, k ≠ 10 → k ≠ 11 → sp_act2 S (4 * x + q) ac (nI so) x3 x4 x5 k = S k := fun k h1 h2 => act2_ne h1 h2
  have e0 := e 0 (by decide) (by decide)
  have e1 := e 1 (by decide) (by decide)
  have e3 := e 3 (by decide) (by decide)
  have e4 := e 4 (by decide) (by decide)
  have e5 := e 5 (by decide) (by decide)
  refine ⟨⟨hs.1, by rw [e0]; exact hs.2.1, by rw [e4]; exact hs.2.2.1, by rw [e4, e5, e1]; exact hs.2.2.2.1, by rw [e3]; exact hs.2.2.2.2.1, by rw [e1, e3]; exact hs.2.2.2.2.2.1, fun mm hmm => ?_, fun mm i hmm hi => ?_⟩, ?_, zI_of (fun k j hzo => ?_), hy, ?_, hl⟩
  · by_cases c : mm = 4 * x + q
    · rw [c, act2_10]; exact ⟨ac + 1, by omega, rfl⟩
    · rw [act2_10o c]; exact hs.2.2.2.2.2.2.1 mm hmm
  · have hn := hs.1
    have old : (mm ≠ 4 * x + q ∨ i < ac) → i < 10 → i < (S 10 mm).toNatClampNeg → okAct (sp_act2 S (4 * x + q) ac (nI so) x3 x4 x5) n (40 * mm + 4 * i) := fun hne hi10 hi2 => okAct_eq (hs.2.2.2.2.2.2.2 mm i hmm hi2) (act2_11o (by omega)) (act2_11o (by omega)) (act2_11o (by omega)) (act2_11o (by omega))
    by_cases c : mm = 4 * x + q
    · by_cases d : i = ac
      · subst c; subst d
        refine ⟨so, hso, act2_0, by rw [act2_1, act2_2, act2_3]; exact hin, fun r => ⟨z, hz, by rw [act2_2]; exact z3 r⟩, fun r => ⟨z, hz, by rw [act2_1]; exact z7 r⟩⟩
      · have hi2 := hi
        rw [c, act2_10, nI_clamp (by omega)] at hi2
        exact old (Or.inr (by omega)) (by omega) (by rw [c, hac, nI_clamp (by omega)]; omega)
    · rw [act2_10o c] at hi
      have := (sI_ac hs (show mm < 48 by omega)).1
      exact old (Or.inl c) (by omega) hi
  · unfold dI at hd ⊢
    rw [e 13 (by decide) (by decide), e 17 (by decide) (by decide), e 8 (by decide) (by decide), e 12 (by decide) (by decide)]
    exact hd
  · by_cases c : k = 10
    · subst c
      have hj : j ≠ 4 * x + q := by unfold zo at hzo; omega
      rw [act2_10o hj]; exact hzi.at 10 j hzo
    · rw [e k c (by unfold zo at hzo; omega)]; exact hzi.at k j hzo
  · unfold pI at hpi ⊢
    rw [e1, e3]
    exact hpi
theorem isF_no {x : Int32} (h : x < 0 ∨ nI 3 < x) : sp_isF x = 0 := by
  unfold sp_isF
  by_cases c : x < 0
  · rw [if_pos c]; rfl
  · rw [if_neg c]
    rcases h with h | h
    · exact absurd h c
    · rw [if_pos]
      · rfl
      · rw [Int32.lt_iff_toInt_lt] at h
        rw [Int32.le_iff_toInt_le]
        have a1 : (nI 4).toInt = 4 := rfl
        have a2 : (nI 3).toInt = 3 := rfl
        omega
theorem oth_new {x z q so ac : Nat} {x3 x4 x5 : Int32} (hz : z < 12) (hso : so ≤ 12) (hZ : nmZ x z (nI so) x3 x4) : oth ((sp_act2 S (4 * x + q) ac (nI so) x3 x4 x5) 11) x (40 * (4 * x + q) + 4 * ac) = z := by
  obtain ⟨z3, z7, z0⟩ := nmZ_so hso hZ
  unfold oth
  rw [act2_0, act2_1, act2_2, nI_clamp (by omega)]
  by_cases c : 1 ≤ so ∧ so ≤ 3
  · rw [if_pos c, z3 c, nI_clamp (by omega)]
  · rw [if_neg c]
    by_cases d : so = 7 ∨ so = 8
    · rw [if_pos d, z7 d, nI_clamp (by omega)]
    · rw [if_neg d]; exact (z0 c d).symm
theorem pr_act (h : iv n S Y X) (x0 x1 x2 x3 x4 x5 : Int32) : pr yX6_act cX6_act 9 yX7_act cX7_act 10 [.int x0, .int x1, .int x2, .int x3, .int x4, .int x5] n S Y L X := by
  have hs := h.1
  have hn := hs.1
  have ref := fun (l : Launch) (G : gw_G) (A : Nat → Prop) (adr : Nat → Nat) => c_X7_act l G A adr S X n x0 x1 x2 x3 x4 x5 hs.2.1 hs.1 hs.2.2.2.2.2.2.1
  have bad : ∀ v : Int32, ¬ v = 0 → sp_actE S x0 x1 x2 x3 x4 x5 = v → okC yX6_act cX6_act 9 [.int x0, .int x1, .int x2, .int x3, .int x4, .int x5] n S Y L v n S Y L → pr yX6_act cX6_act 9 yX7_act cX7_act 10 [.int x0, .int x1, .int x2, .int x3, .int x4, .int x5] n S Y L X := fun v hv he hc => ⟨v, n, S, Y, L, X, h, hc, 2, by omega, fun l G A adr => by
    have h2 := ref l G A adr
    rw [sp_actR, sp_actS, he, if_neg hv, if_neg hv] at h2
    exact h2⟩
  by_cases c0 : sp_has (S 0 0) x0 = 0
  · exact bad (-2) (by decide) (by rw [sp_actE, if_pos c0]) (okC.of (k := 4) (by omega) (fun l G A adr => c_X6_actU l G A adr n S Y L x0 x1 x2 x3 x4 x5 hs c0))
  obtain ⟨x, hx, rfl⟩ := has_yes hs.2.1 hs.1 c0
  have ex : (nI x).toNatClampNeg = x := nI_clamp (by omega)
  by_cases c1 : sp_bad (S 0 0) x2 x3 x4 = 0
  · obtain ⟨z, hz, hZ⟩ := nmZ_ex hs hx c1
    have e1 : sp_actE S (nI x) x1 x2 x3 x4 x5 = if x1 < 0 then -3 else if nI 3 < x1 then -3 else if x2 < 0 then -3 else if nI 12 < x2 then -3 else if sp_areIn x2.toNatClampNeg x3 x4 x5 = 0 then -3
        else if x2.toNatClampNeg = 8 ∧ ¬ S 1 x3.toNatClampNeg = 0 then -4 else if ¬ S 12 x = 0 then -4 else if (S 10 (4 * x + x1.toNatClampNeg)).toNatClampNeg = 10 then -5 else 0 := by
      rw [sp_actE, if_neg c0, if_neg (not_not_intro c1), ex]
    have kM : x1 < 0 ∨ nI 3 < x1 → sp_actE S (nI x) x1 x2 x3 x4 x5 = -3 → pr yX6_act cX6_act 9 yX7_act cX7_act 10 [.int (nI x), .int x1, .int x2, .int x3, .int x4, .int x5] n S Y L X := fun hm he => bad (-3) (by decide) he (okC.of (k := 4) (by omega) (fun l G A adr => c_X6_actM l G A adr n S Y L x z x1 x2 x3 x4 x5 hs hx hz hZ (isF_no hm)))
    by_cases c2 : x1 < 0
    · exact kM (Or.inl c2) (by rw [e1, if_pos c2])
    rw [if_neg c2] at e1
    by_cases c3 : nI 3 < x1
    · exact kM (Or.inr c3) (by rw [e1, if_pos c3])
    rw [if_neg c3] at e1
    obtain ⟨q, hq3, rfl⟩ := ix_le (by decide) c2 c3
    have hq : q < 4 := by omega
    have eq : (nI q).toNatClampNeg = q := nI_clamp (by omega)
    by_cases c4 : x2 < 0
    · exact bad (-3) (by decide) (by rw [e1, if_pos c4]) (okC.of (k := 4) (by omega) (fun l G A adr => c_X6_actS l G A adr n S Y L x z q x2 x3 x4 x5 hs hx hz hZ hq (Or.inl c4)))
    rw [if_neg c4] at e1
    by_cases c5 : nI 12 < x2
    · exact bad (-3) (by decide) (by rw [e1, if_pos c5]) (okC.of (k := 4) (by omega) (fun l G A adr => c_X6_actS l G A adr n S Y L x z q x2 x3 x4 x5 hs hx hz hZ hq (Or.inr c5)))
    rw [if_neg c5] at e1
    obtain ⟨so, hso, rfl⟩ := ix_le (by decide) c4 c5
    have eso : (nI so).toNatClampNeg = so := nI_clamp (by omega)
    rw [eso, eq] at e1
    by_cases c6 : sp_areIn so x3 x4 x5 = 0
    · exact bad (-3) (by decide) (by rw [e1, if_pos c6]) (okC.of (k := 4) (by omega) (fun l G A adr => c_X6_actN l G A adr n S Y L x z q so x3 x4 x5 hs hx hz hZ hq hso c6))
    rw [if_neg c6] at e1
    obtain ⟨z3, z7, z0⟩ := nmZ_so hso hZ
    by_cases c7 : so = 8 ∧ ¬ S 1 x3.toNatClampNeg = 0
    · obtain ⟨rfl, c8⟩ := c7
      have e3 := z7 (Or.inr rfl)
      have c9 : ¬ S 1 z = 0 := by rw [e3, nI_clamp (by omega)] at c8; exact c8
      exact bad (-4) (by decide) (by rw [e1, if_pos ⟨rfl, c8⟩]) (okC.of (k := 4) (by omega) (fun l G A adr => c_X6_actF l G A adr n S Y L x z q x3 x4 x5 hs hx hz hZ hq c9))
    rw [if_neg c7] at e1
    have h8 : so = 8 → S 1 z = 0 := fun r => by
      apply Classical.byContradiction
      intro r2
      apply c7
      refine ⟨r, ?_⟩
      rw [z7 (Or.inr r), nI_clamp (by omega)]
      exact r2
    by_cases c9 : S 12 x = 0
    · rw [if_neg (not_not_intro c9)] at e1
      obtain ⟨ac, h10, hac⟩ := hs.2.2.2.2.2.2.1 (4 * x + q) (by omega)
      have eac : (S 10 (4 * x + q)).toNatClampNeg = ac := by rw [hac, nI_clamp (by omega)]
      rw [eac] at e1
      by_cases c10 : ac = 10
      · exact bad (-5) (by decide) (by rw [e1, if_pos c10]) (okC.of (k := 4) (by omega) (fun l G A adr => c_X6_actR l G A adr n S Y L x z q so x3 x4 x5 hs hx hz hZ hq hso c6 h8 c9 (by rw [hac, c10])))
      · rw [if_neg c10] at e1
        refine ⟨nI (ac + 1), n, sp_act2 S (4 * x + q) ac (nI so) x3 x4 x5, Y, L, X, iv_act h hx hz hZ hq hso c6 hac (by omega), okC.ofA (k := 4) (c := 1) (s := 6) (by omega) (by omega) (by omega) (fun a a2 => ∀ k, k ≠ nk x (14 + 10 * q + ac) → a2 k = a k) (fun a a2 r => r 0 (by show ¬ 0 = 8 + 60 * x + (14 + 10 * q + ac); omega)) (fun l G A adr => c_X6_actK l G A adr n S Y L x z q so ac x3 x4 x5 hs hx hz hZ hq hso c6 h8 c9 hac (by omega) (oth_new (by omega) hso hZ) (fun r => by subst r; exact are_11 c6)), 2, by omega, fun l G A adr => ?_⟩
        have h2 := ref l G A adr
        rw [sp_actR, sp_actS, e1, if_pos rfl, if_pos rfl, sp_acts, ex, eq, eac] at h2
        exact h2
    · exact bad (-4) (by decide) (by rw [e1, if_pos c9]) (okC.of (k := 4) (by omega) (fun l G A adr => c_X6_actT l G A adr n S Y L x z q so x3 x4 x5 hs hx hz hZ hq hso c6 h8 c9))
  · have he : sp_actE S (nI x) x1 x2 x3 x4 x5 = -2 := by rw [sp_actE, if_neg c0, if_pos c1]
    rcases bad_0 c1 with ⟨b1, b2, b3⟩ | ⟨b1, b2⟩
    · obtain ⟨so, h1, h3, rfl⟩ := ix_in (by decide) (by decide) b1 b2
      exact bad (-2) (by decide) he (okC.of (k := 4) (by omega) (fun l G A adr => c_X6_actB3 l G A adr n S Y L x so x1 x3 x4 x5 hs hx h1 h3 b3))
    · rcases b1 with rfl | rfl
      · exact bad (-2) (by decide) he (okC.of (k := 4) (by omega) (fun l G A adr => c_X6_actB7 l G A adr n S Y L x 7 x1 x3 x4 x5 hs hx (Or.inl rfl) b2))
      · exact bad (-2) (by decide) he (okC.of (k := 4) (by omega) (fun l G A adr => c_X6_actB7 l G A adr n S Y L x 8 x1 x3 x4 x5 hs hx (Or.inr rfl) b2))
end P3
