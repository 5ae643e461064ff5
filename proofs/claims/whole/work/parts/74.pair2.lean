/-! CLASS AND REFERENCE SIDE BY SIDE, 2: what makes the classes -/
section P2
variable {n : Nat} {S Y X : Nat → Nat → Int32} {L : Int64}
theorem mk_ne {fa de pa : Int32} {k : Nat} (h : 4 ≤ k) : mkS S n fa de pa k = S k := by
  unfold mkS
  rw [m2_ne (by omega), m2_ne (by omega), m2_ne (by omega), m2_ne (by omega)]
theorem mk_1 {fa de pa : Int32} {y : Nat} : mkS S n fa de pa 1 y = if y = n then fa else S 1 y := by
  unfold mkS
  rw [m2_nk (by decide), m2_nk (by decide), m2_nk (by decide), m2e]
  by_cases c : y = n
  · rw [if_pos ⟨rfl, c⟩, if_pos c]
  · rw [if_neg (fun q => c q.2), if_neg c]
theorem mk_3 {fa de pa : Int32} {y : Nat} : mkS S n fa de pa 3 y = if y = n then pa else S 3 y := by
  unfold mkS
  rw [m2_nk (by decide), m2e]
  by_cases c : y = n
  · rw [if_pos ⟨rfl, c⟩, if_pos c]
  · rw [if_neg (fun q => c q.2), if_neg c, m2_nk (by decide), m2_nk (by decide)]
theorem okAct_up {p : Nat} (h : okAct S n p) : okAct S (n + 1) p := by
  obtain ⟨so, h1, h2, h3, h4, h5⟩ := h
  refine ⟨so, h1, h2, h3, fun q => ?_, fun q => ?_⟩
  · obtain ⟨z, a, b⟩ := h4 q; exact ⟨z, by omega, b⟩
  · obtain ⟨z, a, b⟩ := h5 q; exact ⟨z, by omega, b⟩
theorem okAct_eq {S2 : Nat → Nat → Int32} {p : Nat} (h : okAct S n p) (h0 : S2 11 p = S 11 p) (h1 : S2 11 (p + 1) = S 11 (p + 1)) (h2 : S2 11 (p + 2) = S 11 (p + 2)) (h3 : S2 11 (p + 3) = S 11 (p + 3)) : okAct S2 n p := by
  unfold okAct at h ⊢
  rw [h0, h1, h2, h3]
  exact h
theorem iv_mk {fa de pa : Int32} (h : iv n S Y X) (hn : n < 12) (hp : pa = -1 ∨ (fa = 0 ∧ ∃ p, p < n ∧ pa = nI p ∧ S 1 p = 0)) : iv (n + 1) (mkS S n fa de pa) Y X := by
  obtain ⟨hs, hd, hz, hy, hpi, hl⟩ := h
  have e4 : mkS S n fa de pa 4 = S 4 := mk_ne (by omega)
  have e5 : mkS S n fa de pa 5 = S 5 := mk_ne (by omega)
  have e10 : mkS S n fa de pa 10 = S 10 := mk_ne (by omega)
  have e11 : mkS S n fa de pa 11 = S 11 := mk_ne (by omega)
  refine ⟨⟨by omega, ?_, ?_, fun x i hx hi => ?_, fun x hx => ?_, fun x hx h1 => ?_, ?_, fun mm i hmm hi => ?_⟩, ⟨?_, ?_, ?_, fun x hx => ?_⟩, ?_, fun i => ?_, fun x hx h3 => ?_, hl⟩
  · unfold mkS; exact m2_at
  · rw [e4]; exact hs.2.2.1
  · rw [e4] at hi
    by_cases c : x = n
    · exfalso
      subst c
      rw [(hz.1 x (Nat.le_refl _)).1] at hi
      rw [show Int32.toNatClampNeg 0 = 0 from by decide] at hi
      omega
    · obtain ⟨y, h1, h2, h3⟩ := hs.2.2.2.1 x i (by omega) hi
      exact ⟨y, h1, by rw [e5]; exact h2, by rw [mk_1, if_neg (by omega)]; exact h3⟩
  · rw [mk_3]
    by_cases c : x = n
    · rw [if_pos c]
      rcases hp with hp | ⟨-, p, h1, h2, -⟩
      · exact Or.inl hp
      · exact Or.inr ⟨p, by omega, h2⟩
    · rw [if_neg c]; exact hs.2.2.2.2.1 x (by omega)
  · rw [mk_1] at h1
    rw [mk_3]
    by_cases c : x = n
    · rw [if_pos c] at h1 ⊢
      rcases hp with hp | ⟨hf, -⟩
      · exact hp
      · exact absurd hf h1
    · rw [if_neg c] at h1 ⊢; exact hs.2.2.2.2.2.1 x (by omega) h1
  · rw [e10]; exact hs.2.2.2.2.2.2.1
  · rw [e10] at hi
    by_cases c : mm < 4 * n
    · exact okAct_eq (okAct_up (hs.2.2.2.2.2.2.2 mm i c hi)) (by rw [e11]) (by rw [e11]) (by rw [e11]) (by rw [e11])
    · exfalso
      rw [(hz.2.1 mm (by omega)).2.2] at hi
      rw [show Int32.toNatClampNeg 0 = 0 from by decide] at hi
      omega
  · rw [mk_ne (by omega)]; exact hd.1
  · rw [mk_ne (by omega)]; exact hd.2.1
  · rw [mk_ne (by omega)]; exact hd.2.2.1
  · rw [mk_ne (by omega)]
    by_cases c : x = n
    · subst c; exact ⟨0, by omega, (hz.1 x (Nat.le_refl _)).2.2⟩
    · exact hd.2.2.2 x (by omega)
  · refine zI_of (fun k j hzo => ?_)
    rw [mk_ne (by unfold zo at hzo; omega)]
    exact hz.at k j (by unfold zo at hzo ⊢; omega)
  · rcases hy i with q | q
    · exact Or.inl q
    · exact Or.inr (by omega)
  · rw [mk_3] at h3 ⊢
    by_cases c : x = n
    · rw [if_pos c] at h3 ⊢
      rcases hp with hp | ⟨-, p, h1, h2, h4⟩
      · exact absurd hp h3
      · rw [h2, nI_clamp (by omega), mk_1, if_neg (by omega)]; exact h4
    · rw [if_neg c] at h3 ⊢
      have := (sI_par hs (show x < n by omega) h3).1
      rw [mk_1, if_neg (by omega)]
      exact hpi x (by omega) h3
theorem hE_mk : ∀ a a2 : Nat → Nat, (∀ k, k < nk n 0 ∨ nk n 0 + 60 ≤ k → a2 k = a k) → a2 0 = a 0 := fun a a2 h => h 0 (Or.inl (by show 0 < 8 + 60 * n + 0; omega))
theorem pr_made (h : iv n S Y X) (x0 : Int32) : pr yX6_made cX6_made 3 yX7_made cX7_made 2 [.int x0] n S Y L X := by
  have hs := h.1
  have hn := hs.1
  by_cases c : x0 = -1
  · subst c
    have eE : sp_madeE S (-1) = 0 := by rw [sp_madeE, if_pos rfl]
    have eR : sp_madeR S n (-1) = sp_makeR n := by rw [sp_madeR, if_pos eE]
    have eS : sp_madeS S n (-1) = sp_makeS S n (nI 0) (nI 0) (-1) := by rw [sp_madeS, if_pos eE]
    by_cases d : n = 12
    · refine ⟨-5, n, S, Y, L, X, h, okC.of (k := 5) (by omega) (fun l G A adr => c_X6_madeFN l G A adr n S Y L hs d), 1, by omega, fun l G A adr => ?_⟩
      have h2 := c_X7_made l G A adr S X n (-1) hs.2.1 hs.1
      rw [eR, eS, sp_makeR, if_pos d, sp_makeS, if_pos d] at h2
      exact h2
    · refine ⟨nI n, n + 1, mkS S n (nI 0) (nI 0) (-1), Y, L, X, iv_mk h (by omega) (Or.inl rfl), okC.ofA (k := 5) (c := 14) (s := 99) (by omega) (by omega) (by omega) _ hE_mk (fun l G A adr => c_X6_madeN l G A adr n S Y L hs h.2.2.1 h.2.2.2.1 (by omega)), 1, by omega, fun l G A adr => ?_⟩
      have h2 := c_X7_made l G A adr S X n (-1) hs.2.1 hs.1
      rw [eR, eS, sp_makeR, if_neg d, sp_makeS, if_neg d] at h2
      exact h2
  by_cases c2 : sp_has (S 0 0) x0 = 0
  · have eE : sp_madeE S x0 = -2 := by rw [sp_madeE, if_neg c, if_pos c2]
    refine ⟨-2, n, S, Y, L, X, h, okC.of (k := 5) (by omega) (fun l G A adr => c_X6_madeU l G A adr n S Y L x0 hs c c2), 1, by omega, fun l G A adr => ?_⟩
    have h2 := c_X7_made l G A adr S X n x0 hs.2.1 hs.1
    rw [sp_madeR, sp_madeS, eE, if_neg (by decide), if_neg (by decide)] at h2
    exact h2
  obtain ⟨x, hx, rfl⟩ := has_yes hs.2.1 hs.1 c2
  have ec : (nI x).toNatClampNeg = x := nI_clamp (by omega)
  by_cases f : S 1 x = 0
  · have eE : sp_madeE S (nI x) = 0 := by rw [sp_madeE, if_neg c, if_neg c2, ec, if_pos f]
    have eR : sp_madeR S n (nI x) = sp_makeR n := by rw [sp_madeR, if_pos eE]
    have eS : sp_madeS S n (nI x) = sp_makeS S n (nI 0) (nI 0) (nI x) := by rw [sp_madeS, if_pos eE]
    by_cases d : n = 12
    · refine ⟨-5, n, S, Y, L, X, h, okC.of (k := 5) (by omega) (fun l G A adr => c_X6_madeFP l G A adr n S Y L x hs hx f d), 1, by omega, fun l G A adr => ?_⟩
      have h2 := c_X7_made l G A adr S X n (nI x) hs.2.1 hs.1
      rw [eR, eS, sp_makeR, if_pos d, sp_makeS, if_pos d] at h2
      exact h2
    · refine ⟨nI n, n + 1, mkS S n (nI 0) (nI 0) (nI x), Y, L, X, iv_mk h (by omega) (Or.inr ⟨rfl, x, hx, rfl, f⟩), okC.ofA (k := 5) (c := 14) (s := 99) (by omega) (by omega) (by omega) _ hE_mk (fun l G A adr => c_X6_madeP l G A adr n S Y L x hs h.2.2.1 h.2.2.2.1 (by omega) hx f), 1, by omega, fun l G A adr => ?_⟩
      have h2 := c_X7_made l G A adr S X n (nI x) hs.2.1 hs.1
      rw [eR, eS, sp_makeR, if_neg d, sp_makeS, if_neg d] at h2
      exact h2
  · have eE : sp_madeE S (nI x) = -4 := by rw [sp_madeE, if_neg c, if_neg c2, ec, if_neg f]
    refine ⟨-4, n, S, Y, L, X, h, okC.of (k := 5) (by omega) (fun l G A adr => c_X6_madeS l G A adr n S Y L x hs hx f), 1, by omega, fun l G A adr => ?_⟩
    have h2 := c_X7_made l G A adr S X n (nI x) hs.2.1 hs.1
    rw [sp_madeR, sp_madeS, eE, if_neg (by decide), if_neg (by decide)] at h2
    exact h2
theorem pr_face (h : iv n S Y X) (de : Int32) (hde : de = 0 ∨ de = 1) : pr yX6_face cX6_face 2 yX7_face cX7_face 2 [.int de] n S Y L X := by
  have hs := h.1
  have hn := hs.1
  by_cases d : n = 12
  · refine ⟨-5, n, S, Y, L, X, h, okC.of (k := 5) (by omega) (fun l G A adr => c_X6_faceF l G A adr n S Y L de hs d), 1, by omega, fun l G A adr => ?_⟩
    have h2 := c_X7_face l G A adr S X n de hs.2.1 hs.1 hde
    rw [sp_makeR, if_pos d, sp_makeS, if_pos d] at h2
    exact h2
  · refine ⟨nI n, n + 1, mkS S n (nI 1) de (-1), Y, L, X, iv_mk h (by omega) (Or.inl rfl), okC.ofA (k := 5) (c := 14) (s := 99) (by omega) (by omega) (by omega) _ hE_mk (fun l G A adr => c_X6_faceK l G A adr n S Y L de hs h.2.2.1 h.2.2.2.1 (by omega) hde), 1, by omega, fun l G A adr => ?_⟩
    have h2 := c_X7_face l G A adr S X n de hs.2.1 hs.1 hde
    rw [sp_makeR, if_neg d, sp_makeS, if_neg d] at h2
    exact h2
theorem iv_bears {x y fc : Nat} (h : iv n S Y X) (hx : x < n) (hyx : y < x) (hf : ¬ S 1 y = 0) (hfc : S 4 x = nI fc) (h3 : fc < 3) : iv n (m2 (m2 S 5 (3 * x + fc) (nI y)) 4 x (nI (fc + 1))) Y X := by
  obtain ⟨hs, hd, hz, hy, hpi, hl⟩ := h
  have e : ∀ k, k ≠ 4 → k ≠ 5 → m2 (m2 S 5 (3 * x + fc) (nI y)) 4 x (nI (fc + 1)) k = S k := fun k h4 h5 => by rw [m2_ne h4, m2_ne h5]
  have e4 : ∀ j, m2 (m2 S 5 (3 * x + fc) (nI y)) 4 x (nI (fc + 1)) 4 j = if j = x then nI (fc + 1) else S 4 j := fun j => by
    rw [m2e]
    by_cases c : j = x
    · rw [if_pos ⟨rfl, c⟩, if_pos c]
    · rw [if_neg (fun q => c q.2), if_neg c, m2_nk (by decide)]
  have e5 : ∀ j, m2 (m2 S 5 (3 * x + fc) (nI y)) 4 x (nI (fc + 1)) 5 j = if j = 3 * x + fc then nI y else S 5 j := fun j => by
    rw [m2_nk (by decide), m2e]
    by_cases c : j = 3 * x + fc
    · rw [if_pos ⟨rfl, c⟩, if_pos c]
    · rw [if_neg (fun q => c q.2), if_neg c]
  have hzk : zk n S (m2 (m2 S 5 (3 * x + fc) (nI y)) 4 x (nI (fc + 1))) := (zk_m2 (by unfold zo; omega)).tr (zk_m2 (by unfold zo; omega))
  generalize m2 (m2 S 5 (3 * x + fc) (nI y)) 4 x (nI (fc + 1)) = T at e e4 e5 hzk
  have e1 := e 1 (by decide) (by decide)
  have e3 := e 3 (by decide) (by decide)
  have e10 := e 10 (by decide) (by decide)
  have e11 := e 11 (by decide) (by decide)
  refine ⟨⟨hs.1, by rw [e 0 (by decide) (by decide)]; exact hs.2.1, fun z hz => ?_, fun z i hzn hi => ?_, by rw [e3]; exact hs.2.2.2.2.1, by rw [e1, e3]; exact hs.2.2.2.2.2.1, by rw [e10]; exact hs.2.2.2.2.2.2.1, fun mm i hmm hi => ?_⟩, ?_, hz.to hzk, hy, ?_, hl⟩
  · rw [e4]
    by_cases c : z = x
    · rw [if_pos c]; exact ⟨fc + 1, by omega, rfl⟩
    · rw [if_neg c]; exact hs.2.2.1 z hz
  · rw [e4] at hi
    rw [e1, e5]
    have hn := hs.1
    by_cases c : z = x
    · subst c
      rw [if_pos rfl, nI_clamp (by omega)] at hi
      by_cases d : i = fc
      · rw [if_pos (by omega)]; exact ⟨y, hyx, rfl, hf⟩
      · rw [if_neg (by omega)]
        exact hs.2.2.2.1 z i hzn (by rw [hfc, nI_clamp (by omega)]; omega)
    · rw [if_neg c] at hi
      obtain ⟨f, hf3, hfe⟩ := hs.2.2.1 z (by omega)
      have hi2 := hi
      rw [hfe, nI_clamp (by omega)] at hi2
      rw [if_neg (by omega)]
      exact hs.2.2.2.1 z i hzn hi
  · rw [e10] at hi
    exact okAct_eq (hs.2.2.2.2.2.2.2 mm i hmm hi) (by rw [e11]) (by rw [e11]) (by rw [e11]) (by rw [e11])
  · unfold dI at hd ⊢
    rw [e 13 (by decide) (by decide), e 17 (by decide) (by decide), e 8 (by decide) (by decide), e 12 (by decide) (by decide)]
    exact hd
  · unfold pI at hpi ⊢
    rw [e1, e3]
    exact hpi
theorem pr_bears (h : iv n S Y X) (x0 x1 : Int32) : pr yX6_bears cX6_bears 5 yX7_bears cX7_bears 5 [.int x0, .int x1] n S Y L X := by
  have hs := h.1
  have hn := hs.1
  have ref := fun (l : Launch) (G : gw_G) (A : Nat → Prop) (adr : Nat → Nat) => c_X7_bears l G A adr S X n x0 x1 hs.2.1 hs.1 hs.2.2.1
  have bad : ∀ v : Int32, ¬ v = 0 → sp_bearsE S x0 x1 = v → okC yX6_bears cX6_bears 5 [.int x0, .int x1] n S Y L v n S Y L → pr yX6_bears cX6_bears 5 yX7_bears cX7_bears 5 [.int x0, .int x1] n S Y L X := fun v hv he hc => ⟨v, n, S, Y, L, X, h, hc, 1, by omega, fun l G A adr => by
    have h2 := ref l G A adr
    rw [sp_bearsR, sp_bearsS, he, if_neg hv, if_neg hv] at h2
    exact h2⟩
  by_cases c0 : sp_has (S 0 0) x0 = 0
  · have he : sp_bearsE S x0 x1 = -2 := by rw [sp_bearsE, if_pos c0]
    by_cases c1 : sp_has (S 0 0) x1 = 0
    · exact bad (-2) (by decide) he (okC.of (k := 4) (by omega) (fun l G A adr => c_X6_bearsNN l G A adr n S Y L x0 x1 hs c0 c1))
    · obtain ⟨y, hy, rfl⟩ := has_yes hs.2.1 hs.1 c1
      exact bad (-2) (by decide) he (okC.of (k := 4) (by omega) (fun l G A adr => c_X6_bearsNY l G A adr n S Y L x0 y hs c0 hy))
  obtain ⟨x, hx, rfl⟩ := has_yes hs.2.1 hs.1 c0
  have ex : (nI x).toNatClampNeg = x := nI_clamp (by omega)
  by_cases c1 : sp_has (S 0 0) x1 = 0
  · exact bad (-2) (by decide) (by rw [sp_bearsE, if_neg c0, if_pos c1]) (okC.of (k := 4) (by omega) (fun l G A adr => c_X6_bearsYN l G A adr n S Y L x x1 hs hx c1))
  obtain ⟨y, hy, rfl⟩ := has_yes hs.2.1 hs.1 c1
  have ey : (nI y).toNatClampNeg = y := nI_clamp (by omega)
  obtain ⟨fc, hfc3, hfe⟩ := hs.2.2.1 x (by omega)
  have ef : (S 4 x).toNatClampNeg = fc := by rw [hfe, nI_clamp (by omega)]
  have eE : sp_bearsE S (nI x) (nI y) = if S 1 y = 0 then -4 else if x ≤ y then -4 else if ¬ sp_isin S x y fc = 0 then -4 else if ¬ S 12 x = 0 then -4 else if fc = 3 then -5 else 0 := by
    rw [sp_bearsE, if_neg c0, if_neg c1, ex, ey, ef]
  by_cases d1 : S 1 y = 0
  · exact bad (-4) (by decide) (by rw [eE, if_pos d1]) (okC.of (k := 4) (by omega) (fun l G A adr => c_X6_bears1 l G A adr n S Y L x y hs hx hy d1))
  rw [if_neg d1] at eE
  by_cases d2 : x ≤ y
  · exact bad (-4) (by decide) (by rw [eE, if_pos d2]) (okC.of (k := 4) (by omega) (fun l G A adr => c_X6_bears2 l G A adr n S Y L x y hs hx hy d1 d2))
  rw [if_neg d2] at eE
  by_cases d3 : sp_isin S x y fc = 0
  · rw [if_neg (not_not_intro d3)] at eE
    by_cases d4 : S 12 x = 0
    · rw [if_neg (not_not_intro d4)] at eE
      by_cases d5 : fc = 3
      · exact bad (-5) (by decide) (by rw [eE, if_pos d5]) (okC.of (k := 4) (by omega) (fun l G A adr => c_X6_bears5 l G A adr n S Y L x y fc hs hx hy d1 (by omega) hfe hfc3 d3 d4 d5))
      · rw [if_neg d5] at eE
        refine ⟨nI (fc + 1), n, m2 (m2 S 5 (3 * x + fc) (nI y)) 4 x (nI (fc + 1)), Y, L, X, iv_bears h hx (by omega) d1 hfe (by omega), okC.of (k := 4) (by omega) (fun l G A adr => c_X6_bears6 l G A adr n S Y L x y fc hs hx hy d1 (by omega) hfe hfc3 d3 d4 (by omega)), 1, by omega, fun l G A adr => ?_⟩
        have h2 := ref l G A adr
        rw [sp_bearsR, sp_bearsS, eE, if_pos rfl, if_pos rfl, ex, ef] at h2
        exact h2
    · exact bad (-4) (by decide) (by rw [eE, if_pos d4]) (okC.of (k := 4) (by omega) (fun l G A adr => c_X6_bears4 l G A adr n S Y L x y fc hs hx hy d1 (by omega) hfe hfc3 d3 d4))
  · exact bad (-4) (by decide) (by rw [eE, if_pos d3]) (okC.of (k := 4) (by omega) (fun l G A adr => c_X6_bears3 l G A adr n S Y L x y fc hs hx hy d1 (by omega) hfe hfc3 d3))
end P2
