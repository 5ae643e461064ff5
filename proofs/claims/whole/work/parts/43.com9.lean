/-! THE CLASS, 9: run, constant, again, the Reach -/
theorem isC_yes {x : Int32} (h : ¬ sp_isC x = 0) : ∃ j, 1 ≤ j ∧ j ≤ 3 ∧ x = nI j := by
  unfold sp_isC at h
  by_cases h1 : x < nI 1
  · rw [if_pos h1] at h; exact absurd rfl h
  · rw [if_neg h1] at h
    by_cases h2 : nI 4 ≤ x
    · rw [if_pos h2] at h; exact absurd rfl h
    · refine ix_in (by decide) (by decide) h1 (fun q => h2 ?_)
      rw [Int32.le_iff_toInt_le]
      rw [Int32.lt_iff_toInt_lt] at q
      have e1 : (nI 4).toInt = 4 := rfl
      have e2 : (nI 3).toInt = 3 := rfl
      omega
theorem isC_no {x : Int32} (h : sp_isC x = 0) : x < nI 1 ∨ nI 3 < x := by
  unfold sp_isC at h
  by_cases h1 : x < nI 1
  · exact Or.inl h1
  · rw [if_neg h1] at h
    by_cases h2 : nI 4 ≤ x
    · refine Or.inr ?_
      rw [Int32.le_iff_toInt_le] at h2
      rw [Int32.lt_iff_toInt_lt]
      have e1 : (nI 4).toInt = 4 := rfl
      have e2 : (nI 3).toInt = 3 := rfl
      omega
    · rw [if_neg h2] at h; exact absurd h (by decide)
theorem isC_nI {j : Nat} (h1 : 1 ≤ j) (h3 : j ≤ 3) : ¬ sp_isC (nI j) = 0 := by
  unfold sp_isC
  rw [if_neg (nI_nlt h1 (by omega)), if_neg (nI_ge (by omega) (by omega))]
  decide
set_option maxHeartbeats 4000000 in
set_option maxRecDepth 100000 in
/-- run: no such x -/
theorem c_X6_runU (l : Launch) (G : gw_G) (A : Nat → Prop) (adr : Nat → Nat) (n : Nat) (S Y : Nat → Nat → Int32) (L : Int64) (x0 x1 : Int32) (hs : sI n S) (hd : dI n S) (hno : sp_has (S 0 0) x0 = 0) : gm l yX6_run cX6_run 4 (some .int) (rmL 535) 0 0 A [.ref (adr 0), .int x0, .int x1] (gW G A adr (ccel G adr n S Y L)) (gW G A adr (ccel G adr n S Y L)) (some (.int (-2))) := by
  refine gm_of (own := RX6) (by decide) rfl (Nat.le_of_ble_eq_true rfl) ?_
  intro p e s m below meth c ls F hml hr hlk hnm hK hR hl
  have hx := F.1
  have hb := F.2.1
  replace hl : lv_has ls 4 [(0, .ref (adr 0)), (1, .int x0), (2, .int x1)] := hl
  have hn12 := hs.1
  have hn0 := hs.2.1
  refine lv_aload_n hx hb dX6_run_0 rfl (lv_at hl 0 rfl) ?_
  refine lv_iload_n hx hb dX6_run_1 rfl (lv_at hl 1 rfl) ?_
  refine gcV (As := [.int x0]) F hK hR hml cv_X6_33 (o := 0) (rfl) rfl rfl (c_X6_findN l G A adr n S Y L x0 hn0 hn12 hno) ⟨rfl, rfl⟩ ⟨by dsimp only [rmL]; omega, by dsimp only [rmL]; omega⟩ rfl rfl hl.1 (Nat.le_of_ble_eq_true rfl) dX6_run_2 ⟨Nat.zero_le _, Nat.zero_le _⟩ (fun H locs hR => ?_)
  refine lv_astore_nN (lv' := [(3, .null), (0, .ref (adr 0)), (1, .int x0), (2, .int x1)]) hx hb dX6_run_5 rfl hl (by decide) rfl (fun ls hl => ?_)
  refine lv_aload_nN hx hb dX6_run_6 rfl (lv_at hl 0 rfl) ?_
  refine lv_ifnonnullN hx hb dX6_run_7 ?_
  refine lv_bipush (v := (-2)) hx hb dX6_run_10 (by decide) ?_
  exact gr_i F hr hlk hK hR dX6_run_12 (rfl) (rfl)
set_option maxHeartbeats 4000000 in
set_option maxRecDepth 100000 in
/-- run: no such method -/
theorem c_X6_runO (l : Launch) (G : gw_G) (A : Nat → Prop) (adr : Nat → Nat) (n : Nat) (S Y : Nat → Nat → Int32) (L : Int64) (x : Nat) (x1 : Int32) (hs : sI n S) (hd : dI n S) (hxn : x < n) (hm : sp_isC x1 = 0) : gm l yX6_run cX6_run 4 (some .int) (rmL 535) 0 0 A [.ref (adr 0), .int (nI x), .int x1] (gW G A adr (ccel G adr n S Y L)) (gW G A adr (ccel G adr n S Y L)) (some (.int (-3))) := by
  refine gm_of (own := RX6) (by decide) rfl (Nat.le_of_ble_eq_true rfl) ?_
  intro p e s m below meth c ls F hml hr hlk hnm hK hR hl
  have hx := F.1
  have hb := F.2.1
  replace hl : lv_has ls 4 [(0, .ref (adr 0)), (1, .int (nI x)), (2, .int x1)] := hl
  have hn12 := hs.1
  have hn0 := hs.2.1
  refine lv_aload_n hx hb dX6_run_0 rfl (lv_at hl 0 rfl) ?_
  refine lv_iload_n hx hb dX6_run_1 rfl (lv_at hl 1 rfl) ?_
  refine gcV (As := [.int (nI x)]) F hK hR hml cv_X6_33 (o := 0) (rfl) rfl rfl (c_X6_findY l G A adr n S Y L x hn0 hn12 (by omega)) ⟨rfl, rfl⟩ ⟨by dsimp only [rmL]; omega, by dsimp only [rmL]; omega⟩ rfl rfl hl.1 (Nat.le_of_ble_eq_true rfl) dX6_run_2 ⟨Nat.zero_le _, Nat.zero_le _⟩ (fun H locs hR => ?_)
  refine lv_astore_n (lv' := [(3, .ref (adr (nk x 0))), (0, .ref (adr 0)), (1, .int (nI x)), (2, .int x1)]) hx hb dX6_run_5 rfl hl (by decide) rfl (fun ls hl => ?_)
  refine lv_aload_n hx hb dX6_run_6 rfl (lv_at hl 0 rfl) ?_
  refine lv_ifnonnull (tgt := 13) hx hb dX6_run_7 (by decide) ?_
  refine lv_iload_n hx hb dX6_run_13 rfl (lv_at hl 3 rfl) ?_
  refine gcS (As := [.int x1]) F hml cs_X6_92 (c_X2_isCallable l x1) ⟨rfl, rfl⟩ ⟨by dsimp only [rmL]; omega, by dsimp only [rmL]; omega⟩ rfl rfl hl.1 (Nat.le_of_ble_eq_true rfl) dX6_run_14 ⟨Nat.zero_le _, Nat.zero_le _⟩ ?_
  refine lv_if_ne (tgt := 23) hx hb dX6_run_17 (by decide) (fun c_17 => absurd c_17 (fun q => q hm)) (fun c_17 => ?_)
  refine lv_bipush (v := (-3)) hx hb dX6_run_20 (by decide) ?_
  exact gr_i F hr hlk hK hR dX6_run_22 (rfl) (rfl)
set_option maxHeartbeats 4000000 in
set_option maxRecDepth 100000 in
/-- run -/
theorem c_X6_runK (l : Launch) (G : gw_G) (A : Nat → Prop) (adr : Nat → Nat) (n : Nat) (S Y : Nat → Nat → Int32) (L : Int64) (x q : Nat) (hs : sI n S) (hd : dI n S) (hxn : x < n) (hq1 : 1 ≤ q) (hq3 : q ≤ 3) : gm l yX6_run cX6_run 4 (some .int) (rmL 535) 0 0 A [.ref (adr 0), .int (nI x), .int (nI q)] (gW G A adr (ccel G adr n S Y L)) (gW G A adr (ccel G adr n ((ex2 S Y x q).2.1) (m2 (ex2 S Y x q).2.2 0 0 (ex2 S Y x q).1) L)) (some (.int ((ex2 S Y x q).1))) := by
  refine gm_of (own := RX6) (by decide) rfl (Nat.le_of_ble_eq_true rfl) ?_
  intro p e s m below meth c ls F hml hr hlk hnm hK hR hl
  have hx := F.1
  have hb := F.2.1
  replace hl : lv_has ls 4 [(0, .ref (adr 0)), (1, .int (nI x)), (2, .int (nI q))] := hl
  have hn12 := hs.1
  have hn0 := hs.2.1
  refine lv_aload_n hx hb dX6_run_0 rfl (lv_at hl 0 rfl) ?_
  refine lv_iload_n hx hb dX6_run_1 rfl (lv_at hl 1 rfl) ?_
  refine gcV (As := [.int (nI x)]) F hK hR hml cv_X6_33 (o := 0) (rfl) rfl rfl (c_X6_findY l G A adr n S Y L x hn0 hn12 (by omega)) ⟨rfl, rfl⟩ ⟨by dsimp only [rmL]; omega, by dsimp only [rmL]; omega⟩ rfl rfl hl.1 (Nat.le_of_ble_eq_true rfl) dX6_run_2 ⟨Nat.zero_le _, Nat.zero_le _⟩ (fun H locs hR => ?_)
  refine lv_astore_n (lv' := [(3, .ref (adr (nk x 0))), (0, .ref (adr 0)), (1, .int (nI x)), (2, .int (nI q))]) hx hb dX6_run_5 rfl hl (by decide) rfl (fun ls hl => ?_)
  refine lv_aload_n hx hb dX6_run_6 rfl (lv_at hl 0 rfl) ?_
  refine lv_ifnonnull (tgt := 13) hx hb dX6_run_7 (by decide) ?_
  refine lv_iload_n hx hb dX6_run_13 rfl (lv_at hl 3 rfl) ?_
  refine gcS (As := [.int (nI q)]) F hml cs_X6_92 (c_X2_isCallable l (nI q)) ⟨rfl, rfl⟩ ⟨by dsimp only [rmL]; omega, by dsimp only [rmL]; omega⟩ rfl rfl hl.1 (Nat.le_of_ble_eq_true rfl) dX6_run_14 ⟨Nat.zero_le _, Nat.zero_le _⟩ ?_
  refine lv_if_ne (tgt := 23) hx hb dX6_run_17 (by decide) (fun c_17 => ?_) (fun c_17 => absurd c_17 ((isC_nI hq1 hq3)))
  refine lv_aload_n hx hb dX6_run_23 rfl (lv_at hl 1 rfl) ?_
  refine og_2 F hK hR fl_X6_22 dX6_run_24 ?_
  refine lv_aload_n hx hb dX6_run_27 rfl (lv_at hl 0 rfl) ?_
  refine lv_iload_n hx hb dX6_run_28 rfl (lv_at hl 3 rfl) ?_
  refine gcVi (As := [.ref (adr (nk x 0)), .int (nI q)]) F hK hR hml cv_X6_95 (o := 2) (rfl) rfl rfl (c_X3_execute l G A adr n S Y L x q hs hd hxn (by omega)) ⟨rfl, rfl⟩ ⟨by dsimp only [rmL]; omega, by dsimp only [rmL]; omega⟩ rfl rfl hl.1 (Nat.le_of_ble_eq_true rfl) dX6_run_29 ⟨Nat.zero_le _, Nat.zero_le _⟩ (fun H locs hR => ?_)
  exact gr_i F hr hlk hK hR dX6_run_32 (rfl) (rfl)
set_option maxHeartbeats 4000000 in
set_option maxRecDepth 100000 in
/-- constant(x, field, value) -/
theorem c_X6_constant (l : Launch) (G : gw_G) (A : Nat → Prop) (adr : Nat → Nat) (n : Nat) (S Y : Nat → Nat → Int32) (L : Int64) (x0 x1 x2 : Int32) (hn0 : S 0 0 = nI n) (hn12 : n ≤ 12) : gm l yX6_constant cX6_constant 5 (some .int) (rmL 2) 0 0 A [.ref (adr 0), .int x0, .int x1, .int x2] (gW G A adr (ccel G adr n S Y L)) (gW G A adr (ccel G adr n (sp_constS S x0 x1 x2) Y L)) (some (.int (sp_constE S x0 x1))) := by
  refine gm_of (own := RX6) (by decide) rfl (Nat.le_of_ble_eq_true rfl) ?_
  intro p e s m below meth c ls F hml hr hlk hnm hK hR hl
  have hx := F.1
  have hb := F.2.1
  replace hl : lv_has ls 5 [(0, .ref (adr 0)), (1, .int x0), (2, .int x1), (3, .int x2)] := hl
  by_cases hh_x : sp_has (S 0 0) x0 = 0
  · skip
    refine lv_aload_n hx hb dX6_constant_0 rfl (lv_at hl 0 rfl) ?_
    refine lv_iload_n hx hb dX6_constant_1 rfl (lv_at hl 1 rfl) ?_
    refine gcV (As := [.int x0]) F hK hR hml cv_X6_33 (o := 0) (rfl) rfl rfl (c_X6_findN l G A adr n S Y L x0 hn0 hn12 hh_x) ⟨rfl, rfl⟩ ⟨Nat.le_of_ble_eq_true rfl, Nat.le_of_ble_eq_true rfl⟩ rfl rfl hl.1 (Nat.le_of_ble_eq_true rfl) dX6_constant_2 ⟨Nat.zero_le _, Nat.zero_le _⟩ (fun H locs hR => ?_)
    refine lv_astoreN (lv' := [(4, .null), (0, .ref (adr 0)), (1, .int x0), (2, .int x1), (3, .int x2)]) hx hb dX6_constant_5 hl (by decide) rfl (fun ls hl => ?_)
    refine lv_aloadN hx hb dX6_constant_7 (lv_at hl 0 rfl) ?_
    refine lv_ifnonnullN hx hb dX6_constant_9 ?_
    have hE : sp_constE S x0 x1 = -2 := by rw [sp_constE, if_pos hh_x]
    refine lv_bipush (v := (-2)) hx hb dX6_constant_12 (by decide) ?_
    exact gr_i F hr hlk hK hR dX6_constant_14 (hE.symm) (by rw [sp_constS, if_neg (by rw [hE]; decide)])
  · obtain ⟨x, h_x, rfl⟩ := has_yes hn0 hn12 hh_x
    refine lv_aload_n hx hb dX6_constant_0 rfl (lv_at hl 0 rfl) ?_
    refine lv_iload_n hx hb dX6_constant_1 rfl (lv_at hl 1 rfl) ?_
    refine gcV (As := [.int (nI x)]) F hK hR hml cv_X6_33 (o := 0) (rfl) rfl rfl (c_X6_findY l G A adr n S Y L x hn0 hn12 (by omega)) ⟨rfl, rfl⟩ ⟨Nat.le_of_ble_eq_true rfl, Nat.le_of_ble_eq_true rfl⟩ rfl rfl hl.1 (Nat.le_of_ble_eq_true rfl) dX6_constant_2 ⟨Nat.zero_le _, Nat.zero_le _⟩ (fun H locs hR => ?_)
    refine lv_astore (lv' := [(4, .ref (adr (nk x 0))), (0, .ref (adr 0)), (1, .int (nI x)), (2, .int x1), (3, .int x2)]) hx hb dX6_constant_5 hl (by decide) rfl (fun ls hl => ?_)
    refine lv_aload hx hb dX6_constant_7 (lv_at hl 0 rfl) ?_
    refine lv_ifnonnull (tgt := 15) hx hb dX6_constant_9 (by decide) ?_
    refine lv_iload_n hx hb dX6_constant_15 rfl (lv_at hl 3 rfl) ?_
    refine gcS (As := [.int x1]) F hml cs_X6_59 (c_X2_isField l x1) ⟨rfl, rfl⟩ ⟨Nat.le_of_ble_eq_true rfl, Nat.le_of_ble_eq_true rfl⟩ rfl rfl hl.1 (Nat.le_of_ble_eq_true rfl) dX6_constant_16 ⟨Nat.zero_le _, Nat.zero_le _⟩ ?_
    refine lv_if_ne (tgt := 25) hx hb dX6_constant_19 (by decide) (fun c_19 => ?_) (fun c_19 => ?_)
    · obtain ⟨f, h_f, rfl⟩ := isF_yes c_19
      refine lv_aload hx hb dX6_constant_25 (lv_at hl 0 rfl) ?_
      refine lv_iload_n hx hb dX6_constant_27 rfl (lv_at hl 3 rfl) ?_
      refine gcVi (As := [.int (nI f)]) F hK hR hml cv_X6_62 (o := nk x 0) (ccel_k (by omega) (by decide)) rfl rfl (c_X2_isConstant l G A adr n S Y L x f (by omega) (by omega)) ⟨rfl, rfl⟩ ⟨Nat.le_of_ble_eq_true rfl, Nat.le_of_ble_eq_true rfl⟩ rfl rfl hl.1 (Nat.le_of_ble_eq_true rfl) dX6_constant_28 ⟨Nat.zero_le _, Nat.zero_le _⟩ (fun H locs hR => ?_)
      refine lv_if_ne (tgt := 42) hx hb dX6_constant_31 (by decide) (fun c_31 => ?_) (fun c_31 => ?_)
      · have hE : sp_constE S (nI x) (nI f) = -4 := by rw [sp_constE, if_neg hh_x, if_neg c_19, nI_clamp (n := x) (by omega), nI_clamp (n := f) (by omega)]; rw [if_pos (fun q => c_31 (isK_z.mpr q))]
        refine lv_bipush (v := (-4)) hx hb dX6_constant_42 (by decide) ?_
        exact gr_i F hr hlk hK hR dX6_constant_44 (hE.symm) (by rw [sp_constS, if_neg (by rw [hE]; decide)])
      · refine lv_aload hx hb dX6_constant_34 (lv_at hl 0 rfl) ?_
        refine kg_11 F hK hR (by omega) fl_X6_52 dX6_constant_36 ?_
        refine lv_if_eq (tgt := 45) hx hb dX6_constant_39 (by decide) (fun c_39 => ?_) (fun c_39 => ?_)
        · have hE : sp_constE S (nI x) (nI f) = nI 1 := by rw [sp_constE, if_neg hh_x, if_neg c_19, nI_clamp (n := x) (by omega), nI_clamp (n := f) (by omega), if_neg (not_not_intro (isK_z.mp c_31)), if_neg (not_not_intro c_39)]
          refine lv_aload hx hb dX6_constant_45 (lv_at hl 0 rfl) ?_
          refine lv_iload_n hx hb dX6_constant_47 rfl (lv_at hl 3 rfl) ?_
          refine lv_iload_n hx hb dX6_constant_48 rfl (lv_at hl 4 rfl) ?_
          refine gcVv (As := [.int (nI f), .int x2]) F hK hR hml cv_X6_65 (o := nk x 0) (ccel_k (by omega) (by decide)) rfl rfl (c_X2_fix l G A adr n S Y L x f x2 (by omega) (by omega)) ⟨rfl, rfl⟩ ⟨Nat.le_of_ble_eq_true rfl, Nat.le_of_ble_eq_true rfl⟩ rfl rfl hl.1 (Nat.le_of_ble_eq_true rfl) dX6_constant_49 ⟨Nat.zero_le _, Nat.zero_le _⟩ (fun H locs hR => ?_)
          refine lv_iconst (v := nI 1) hx hb dX6_constant_52 (by decide) ?_
          exact gr_i F hr hlk hK hR dX6_constant_53 (hE.symm) (by rw [sp_constS, if_pos hE, nI_clamp (by omega), nI_clamp (by omega)])
        · have hE : sp_constE S (nI x) (nI f) = -4 := by rw [sp_constE, if_neg hh_x, if_neg c_19, nI_clamp (n := x) (by omega), nI_clamp (n := f) (by omega)]; rw [if_neg (not_not_intro (isK_z.mp c_31)), if_pos c_39]
          refine lv_bipush (v := (-4)) hx hb dX6_constant_42 (by decide) ?_
          exact gr_i F hr hlk hK hR dX6_constant_44 (hE.symm) (by rw [sp_constS, if_neg (by rw [hE]; decide)])
    · have hE : sp_constE S (nI x) x1 = -3 := by rw [sp_constE, if_neg hh_x, if_pos c_19]
      refine lv_bipush (v := (-3)) hx hb dX6_constant_22 (by decide) ?_
      exact gr_i F hr hlk hK hR dX6_constant_24 (hE.symm) (by rw [sp_constS, if_neg (by rw [hE]; decide)])
set_option maxHeartbeats 4000000 in
set_option maxRecDepth 100000 in
/-- again() -/
theorem c_X6_again (l : Launch) (G : gw_G) (A : Nat → Prop) (adr : Nat → Nat) (n : Nat) (S Y : Nat → Nat → Int32) (L : Int64)  (hn0 : S 0 0 = nI n) (hn12 : n ≤ 12) : gm l yX6_again cX6_again 3 (some .int) (rmL 3) 0 0 A [.ref (adr 0)] (gW G A adr (ccel G adr n S Y L)) (gW G A adr (ccel G adr n (sp_agS S n) Y L)) (some (.int (sp_agN S n))) := by
  refine gm_of (own := RX6) (by decide) rfl (Nat.le_of_ble_eq_true rfl) ?_
  intro p e s m below meth c ls F hml hr hlk hnm hK hR hl
  have hx := F.1
  have hb := F.2.1
  replace hl : lv_has ls 3 [(0, .ref (adr 0))] := hl
  refine lv_iconst (v := nI 0) hx hb dX6_again_0 (by decide) ?_
  refine lv_istore_n (lv' := [(1, .int (nI 0)), (0, .ref (adr 0))]) hx hb dX6_again_1 rfl hl (by decide) rfl (fun ls hl => ?_)
  refine lv_iconst (v := nI 0) hx hb dX6_again_2 (by decide) ?_
  refine lv_istore_n (lv' := [(2, .int (nI 0)), (1, .int (nI 0)), (0, .ref (adr 0))]) hx hb dX6_again_3 rfl hl (by decide) rfl (fun ls hl => ?_)
  refine lp_gen hR (fun H locs hR => ?_)
  obtain ⟨k, hk⟩ : ∃ k : Nat, k = 0 := ⟨_, rfl⟩
  replace hl : lv_has ls 3 [(2, .int (nI k)), (1, .int (sp_agN S k)), (0, .ref (adr 0))] := by rw [hk]; exact lv_sub hl [0, 1, 2] rfl
  have hle : k ≤ n := by omega
  replace hR : cB G A adr n (sp_agS S k) Y L s.heap H locs := by rw [hk]; exact hR
  clear hk
  generalize hd : n - k = d
  induction d generalizing k ls H locs with
  | zero =>
    have ek := sub0 hd hle
    refine lv_iload_n hx hb dX6_again_4 rfl (lv_at hl 0 rfl) ?_
    refine lv_aload_n hx hb dX6_again_5 rfl (lv_at hl 2 rfl) ?_
    refine og_1 F hK hR fl_X6_15 dX6_again_6 ?_
    refine lv_eq ((congrFun (sp_agS_ne (k := k) (by decide) (by decide) (by decide)) 0).trans hn0) ?_
    refine nv_icmp_ge (by omega) (by omega) hx hb dX6_again_9 (tgt := 42) (by decide) (fun c_9 => ?_) (fun c_9 => absurd c_9 (by omega))
    refine lv_iload_n hx hb dX6_again_42 rfl (lv_at hl 1 rfl) ?_
    exact gr_i F hr hlk hK hR dX6_again_43 (by rw [ek]) (by rw [ek])
  | succ d ih =>
    refine lv_iload_n hx hb dX6_again_4 rfl (lv_at hl 0 rfl) ?_
    refine lv_aload_n hx hb dX6_again_5 rfl (lv_at hl 2 rfl) ?_
    refine og_1 F hK hR fl_X6_15 dX6_again_6 ?_
    refine lv_eq ((congrFun (sp_agS_ne (k := k) (by decide) (by decide) (by decide)) 0).trans hn0) ?_
    refine nv_icmp_ge (by omega) (by omega) hx hb dX6_again_9 (tgt := 42) (by decide) (fun c_9 => absurd c_9 (by omega)) (fun c_9 => ?_)
    refine lv_aload_n hx hb dX6_again_12 rfl (lv_at hl 2 rfl) ?_
    refine og_0 F hK hR fl_X6_11 dX6_again_13 ?_
    refine lv_iload_n hx hb dX6_again_16 rfl (lv_at hl 0 rfl) ?_
    refine kd_ld F hK hR (by omega) (by omega) dX6_again_17 ?_
    refine kg_11 F hK hR (by omega) fl_X6_52 dX6_again_18 ?_
    refine lv_if_eq (tgt := 27) hx hb dX6_again_21 (by decide) (fun c_21 => ?_) (fun c_21 => ?_)
    · refine lv_aload_n hx hb dX6_again_27 rfl (lv_at hl 2 rfl) ?_
      refine og_0 F hK hR fl_X6_11 dX6_again_28 ?_
      refine lv_iload_n hx hb dX6_again_31 rfl (lv_at hl 0 rfl) ?_
      refine kd_ld F hK hR (by omega) (by omega) dX6_again_32 ?_
      refine gcVv (As := []) F hK hR hml cv_X6_143 (o := nk k 0) (ccel_k (by omega) (by decide)) rfl rfl (c_X2_reset l G A adr n (sp_agS S k) Y L k (by omega)) ⟨rfl, rfl⟩ ⟨Nat.le_of_ble_eq_true rfl, Nat.le_of_ble_eq_true rfl⟩ rfl rfl hl.1 (Nat.le_of_ble_eq_true rfl) dX6_again_33 ⟨Nat.zero_le _, Nat.zero_le _⟩ (fun H locs hR => ?_)
      refine lv_iinc (v := nI (k + 1)) (lv' := [(2, .int (nI (k + 1))), (1, .int (sp_agN S k)), (0, .ref (adr 0))]) hx hb dX6_again_36 hl (k := 0) rfl (nI_add _ _) (by decide) rfl (fun ls hl => ?_)
      refine lv_goto (tgt := 4) hx hb dX6_again_39 (by decide) ?_
      have q : sp_agN S k = sp_agN S (k + 1) := by rw [sp_agN, if_pos c_21]; exact (Int32.add_zero _).symm
      have hl2 : lv_has ls 3 [(2, .int (nI (k + 1))), (1, .int (sp_agN S (k + 1))), (0, .ref (adr 0))] := by rw [← q]; exact lv_sub hl [0, 1, 2] rfl
      exact ih _ _ _ _ hl2 (by omega) hR (by omega)
    · refine lv_iinc (v := (sp_agN S k) + nI 1) (lv' := [(1, .int ((sp_agN S k) + nI 1)), (2, .int (nI k)), (0, .ref (adr 0))]) hx hb dX6_again_24 hl (k := 1) rfl (rfl) (by decide) rfl (fun ls hl => ?_)
      refine lv_aload_n hx hb dX6_again_27 rfl (lv_at hl 2 rfl) ?_
      refine og_0 F hK hR fl_X6_11 dX6_again_28 ?_
      refine lv_iload_n hx hb dX6_again_31 rfl (lv_at hl 1 rfl) ?_
      refine kd_ld F hK hR (by omega) (by omega) dX6_again_32 ?_
      refine gcVv (As := []) F hK hR hml cv_X6_143 (o := nk k 0) (ccel_k (by omega) (by decide)) rfl rfl (c_X2_reset l G A adr n (sp_agS S k) Y L k (by omega)) ⟨rfl, rfl⟩ ⟨Nat.le_of_ble_eq_true rfl, Nat.le_of_ble_eq_true rfl⟩ rfl rfl hl.1 (Nat.le_of_ble_eq_true rfl) dX6_again_33 ⟨Nat.zero_le _, Nat.zero_le _⟩ (fun H locs hR => ?_)
      refine lv_iinc (v := nI (k + 1)) (lv' := [(2, .int (nI (k + 1))), (1, .int ((sp_agN S k) + nI 1)), (0, .ref (adr 0))]) hx hb dX6_again_36 hl (k := 1) rfl (nI_add _ _) (by decide) rfl (fun ls hl => ?_)
      refine lv_goto (tgt := 4) hx hb dX6_again_39 (by decide) ?_
      have q : (sp_agN S k) + nI 1 = sp_agN S (k + 1) := by rw [sp_agN, if_neg c_21]
      have hl2 : lv_has ls 3 [(2, .int (nI (k + 1))), (1, .int (sp_agN S (k + 1))), (0, .ref (adr 0))] := by rw [← q]; exact lv_sub hl [0, 1, 2] rfl
      exact ih _ _ _ _ hl2 (by omega) hR (by omega)
