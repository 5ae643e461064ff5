/-! THE CLASS, 12: the Reach: want, follow, ofMethod, ofStart; may, ahead -/
set_option maxHeartbeats 4000000 in
set_option maxRecDepth 100000 in
/-- Reach.want(kind) -/
theorem c_X5_want (l : Launch) (G : gw_G) (A : Nat → Prop) (adr : Nat → Nat) (n : Nat) (S Y : Nat → Nat → Int32) (L : Int64) (x : Nat) (hs : sI n S) (hxn : x < n) (hI : rI n (Y, L)) : gm l yX5_want cX5_want 4 none (rmL 16) 0 0 A [.ref (adr 6), .ref (adr (nk x 0))] (gW G A adr (ccel G adr n S Y L)) (gW G A adr (ccel G adr n S ((rwL S 12 x (Y, L)).1) ((rwL S 12 x (Y, L)).2))) none := by
  refine gm_of (own := RX5) (by decide) rfl (Nat.le_of_ble_eq_true rfl) ?_
  intro p e s m below meth c ls F hml hr hlk hnm hK hR hl
  have hx := F.1
  have hb := F.2.1
  replace hl : lv_has ls 4 [(0, .ref (adr 6)), (1, .ref (adr (nk x 0)))] := hl
  have hn12 := hs.1
  refine lv_aload_n hx hb dX5_want_0 rfl (lv_at hl 1 rfl) ?_
  refine lv_astore_n (lv' := [(2, .ref (adr (nk x 0))), (0, .ref (adr 6)), (1, .ref (adr (nk x 0)))]) hx hb dX5_want_1 rfl hl (by decide) rfl (fun ls hl => ?_)
  refine lv_iconst (v := nI 0) hx hb dX5_want_2 (by decide) ?_
  refine lv_istore_n (lv' := [(3, .int (nI 0)), (2, .ref (adr (nk x 0))), (0, .ref (adr 6)), (1, .ref (adr (nk x 0)))]) hx hb dX5_want_3 rfl hl (by decide) rfl (fun ls hl => ?_)
  obtain ⟨R0, hR0⟩ : ∃ R0, R0 = rwL S 12 x (Y, L) := ⟨_, rfl⟩
  rw [← hR0]
  refine lp_gen hR (fun H locs hR => ?_)
  obtain ⟨i, hi0⟩ : ∃ i : Nat, i = 0 := ⟨_, rfl⟩
  obtain ⟨y, hy0⟩ : ∃ y : Nat, y = x := ⟨_, rfl⟩
  obtain ⟨st, hst0⟩ : ∃ st : rST, st = (Y, L) := ⟨_, rfl⟩
  have hI0 : rI n st := by rw [hst0]; exact hI
  have hyn : y < n := by omega
  have hle : i ≤ 12 := by omega
  have hQ : rwL S (12 - i) y st = R0 := by rw [hR0, hi0, hst0, hy0]
  generalize hdd : 12 - i = dd at hQ
  replace hl : lv_has ls 4 [(3, .int (nI i)), (2, .ref (adr (nk y 0))), (0, .ref (adr 6)), (1, .ref (adr (nk x 0)))] := by rw [hi0, hy0]; exact lv_sub hl [0, 1, 2, 3] rfl
  replace hR : cB G A adr n S st.1 st.2 s.heap H locs := by rw [hst0]; exact hR
  clear hR0 hi0 hst0 hy0 hI
  induction dd generalizing i y st ls H locs with
  | zero =>
    have hRw : st = R0 := hQ
    refine lv_iload_n hx hb dX5_want_4 rfl (lv_at hl 0 rfl) ?_
    refine lv_bipush (v := nI 12) hx hb dX5_want_5 (by decide) ?_
    refine nv_icmp_ge (by omega) (by omega) hx hb dX5_want_7 (tgt := 52) (by decide) (fun c_7 => ?_) (fun c_7 => absurd c_7 (by omega))
    exact gr_v F hr hlk hK hR dX5_want_52 (by rw [← hRw])
  | succ dd ih =>
    refine lv_iload_n hx hb dX5_want_4 rfl (lv_at hl 0 rfl) ?_
    refine lv_bipush (v := nI 12) hx hb dX5_want_5 (by decide) ?_
    refine nv_icmp_ge (by omega) (by omega) hx hb dX5_want_7 (tgt := 52) (by decide) (fun c_7 => absurd c_7 (by omega)) (fun c_7 => ?_)
    refine lv_aload_n hx hb dX5_want_10 rfl (lv_at hl 1 rfl) ?_
    refine lv_ifnull hx hb dX5_want_11 ?_
    refine lv_aload_n hx hb dX5_want_14 rfl (lv_at hl 2 rfl) ?_
    refine lv_aload_n hx hb dX5_want_15 rfl (lv_at hl 1 rfl) ?_
    refine gcVi (As := [.ref (adr (nk y 0))]) F hK hR hml cv_X5_66 (o := 6) (rfl) rfl rfl (c_X5_isWanted l G A adr n S st.1 st.2 y (by omega)) ⟨rfl, rfl⟩ ⟨by dsimp only [rmL]; omega, by dsimp only [rmL]; omega⟩ rfl rfl hl.1 (Nat.le_of_ble_eq_true rfl) dX5_want_16 ⟨Nat.zero_le _, Nat.zero_le _⟩ (fun H locs hR => ?_)
    refine lv_if_ne (tgt := 52) hx hb dX5_want_19 (by decide) (fun c_19 => ?_) (fun c_19 => ?_)
    · exact gr_v F hr hlk hK hR dX5_want_52 (by rw [← hQ, rwL, if_pos (show ¬ st.1 2 0 &&& b1 y = 0 from fun q => c_19 (by rw [if_pos q]; rfl))])
    · have c_19b : st.1 2 0 &&& b1 y = 0 := by by_cases q : st.1 2 0 &&& b1 y = 0; exact q; rw [if_neg q] at c_19; exact absurd c_19 (by decide)
      obtain ⟨sz1, hs48, hz1, -⟩ := id hI0
      refine lv_aload_n hx hb dX5_want_22 rfl (lv_at hl 2 rfl) ?_
      refine lv_aload_n hx hb dX5_want_23 rfl (lv_at hl 1 rfl) ?_
      refine gcVv (As := [.ref (adr (nk y 0))]) F hK hR hml cv_X5_70 (o := 6) (rfl) rfl rfl (c_X5_add l G A adr n S st.1 st.2 y sz1 (by omega) hz1 (by omega) (by omega)) ⟨rfl, rfl⟩ ⟨by dsimp only [rmL]; omega, by dsimp only [rmL]; omega⟩ rfl rfl hl.1 (Nat.le_of_ble_eq_true rfl) dX5_want_24 ⟨Nat.zero_le _, Nat.zero_le _⟩ (fun H locs hR => ?_)
      have hI1 := rI_add (x := y) hI0 hyn
      have hI2 := rI_wK hs hyn hI1
      generalize hr1 : rl_add y st = st1 at hI1 hI2 hR ⊢
      refine lv_aload_n hx hb dX5_want_27 rfl (lv_at hl 1 rfl) ?_
      refine kg_1 F hK hR (by omega) fl_X5_73 dX5_want_28 ?_
      refine lv_if_ne (tgt := 41) hx hb dX5_want_31 (by decide) (fun c_31 => ?_) (fun c_31 => ?_)
      · have hk : st1 = rwK S y st1 := by rw [rwK, if_neg c_31]
        generalize hr2 : rwK S y st1 = st2 at hI2 hk
        replace hR : cB G A adr n S st2.1 st2.2 s.heap H locs := by rw [← hk]; exact hR
        by_cases hp : S 3 y = -1
        · have hRw : st2 = R0 := by rw [← hQ, rwL, if_neg (not_not_intro c_19b), if_pos hp, hr1, hr2]
          refine lv_aload_n hx hb dX5_want_41 rfl (lv_at hl 1 rfl) ?_
          refine kg_3 F hK hR (by omega) fl_X5_81 dX5_want_42 ?_
          rw [par_no hp]
          refine lv_astore_nN (lv' := [(2, .null), (3, .int (nI i)), (0, .ref (adr 6)), (1, .ref (adr (nk x 0)))]) hx hb dX5_want_45 rfl hl (by decide) rfl (fun ls hl => ?_)
          refine lv_iinc (v := nI (i + 1)) (lv' := [(3, .int (nI (i + 1))), (2, .null), (0, .ref (adr 6)), (1, .ref (adr (nk x 0)))]) hx hb dX5_want_46 hl (k := 1) rfl (nI_add _ _) (by decide) rfl (fun ls hl => ?_)
          refine lv_goto (tgt := 4) hx hb dX5_want_49 (by decide) ?_
          refine lv_iload_n hx hb dX5_want_4 rfl (lv_at hl 0 rfl) ?_
          refine lv_bipush (v := nI 12) hx hb dX5_want_5 (by decide) ?_
          refine nv_icmp_ge (by omega) (by omega) hx hb dX5_want_7 (tgt := 52) (by decide) (fun c_7 => ?_) (fun c_7 => ?_)
          · have n_7 : ¬ ((i + 1) < 12) := by omega
            exact gr_v F hr hlk hK hR dX5_want_52 (by rw [← hRw])
          · have n_7 : ¬ (12 ≤ (i + 1)) := by omega
            refine lv_aload_nN hx hb dX5_want_10 rfl (lv_at hl 1 rfl) ?_
            refine lv_ifnullN (tgt := 52) hx hb dX5_want_11 (by decide) ?_
            exact gr_v F hr hlk hK hR dX5_want_52 (by rw [← hRw])
        · obtain ⟨hpx, hpe⟩ := sI_par hs hyn hp
          have hQ2 : rwL S dd (S 3 y).toNatClampNeg st2 = R0 := by rw [← hQ, rwL, if_neg (not_not_intro c_19b), if_neg hp, hr1, hr2]
          have hpp : pref adr S y = some (adr (nk (S 3 y).toNatClampNeg 0)) := par_yes hp
          generalize (S 3 y).toNatClampNeg = z at hpx hQ2 hpp
          refine lv_aload_n hx hb dX5_want_41 rfl (lv_at hl 1 rfl) ?_
          refine kg_3 F hK hR (by omega) fl_X5_81 dX5_want_42 ?_
          rw [hpp]
          refine lv_astore_n (lv' := [(2, .ref (adr (nk z 0))), (3, .int (nI i)), (0, .ref (adr 6)), (1, .ref (adr (nk x 0)))]) hx hb dX5_want_45 rfl hl (by decide) rfl (fun ls hl => ?_)
          refine lv_iinc (v := nI (i + 1)) (lv' := [(3, .int (nI (i + 1))), (2, .ref (adr (nk z 0))), (0, .ref (adr 6)), (1, .ref (adr (nk x 0)))]) hx hb dX5_want_46 hl (k := 1) rfl (nI_add _ _) (by decide) rfl (fun ls hl => ?_)
          refine lv_goto (tgt := 4) hx hb dX5_want_49 (by decide) ?_
          exact ih _ _ _ (i + 1) z st2 hI2 (by omega) (by omega) (by omega) hQ2 (lv_sub hl [0, 1, 2, 3] rfl) hR
      · refine lv_aload_n hx hb dX5_want_34 rfl (lv_at hl 2 rfl) ?_
        refine lv_aload_n hx hb dX5_want_35 rfl (lv_at hl 1 rfl) ?_
        refine lv_bipush (v := nI 12) hx hb dX5_want_36 (by decide) ?_
        refine gcVv (As := [.ref (adr (nk y 0)), .int (nI 12)]) F hK hR hml cv_X5_77 (o := 6) (rfl) rfl rfl (c_X5_lookThrough l G A adr n S hs 12 (by omega) st1.1 st1.2 y hyn hI1) ⟨rfl, rfl⟩ ⟨by dsimp only [rmL]; omega, by dsimp only [rmL]; omega⟩ rfl rfl hl.1 (Nat.le_of_ble_eq_true rfl) dX5_want_38 ⟨Nat.zero_le _, Nat.zero_le _⟩ (fun H locs hR => ?_)
        have hk : rk S 12 y st1 = rwK S y st1 := by rw [rwK, if_pos c_31]
        generalize hr2 : rwK S y st1 = st2 at hI2 hk
        replace hR : cB G A adr n S st2.1 st2.2 s.heap H locs := by rw [← hk]; exact hR
        by_cases hp : S 3 y = -1
        · have hRw : st2 = R0 := by rw [← hQ, rwL, if_neg (not_not_intro c_19b), if_pos hp, hr1, hr2]
          refine lv_aload_n hx hb dX5_want_41 rfl (lv_at hl 1 rfl) ?_
          refine kg_3 F hK hR (by omega) fl_X5_81 dX5_want_42 ?_
          rw [par_no hp]
          refine lv_astore_nN (lv' := [(2, .null), (3, .int (nI i)), (0, .ref (adr 6)), (1, .ref (adr (nk x 0)))]) hx hb dX5_want_45 rfl hl (by decide) rfl (fun ls hl => ?_)
          refine lv_iinc (v := nI (i + 1)) (lv' := [(3, .int (nI (i + 1))), (2, .null), (0, .ref (adr 6)), (1, .ref (adr (nk x 0)))]) hx hb dX5_want_46 hl (k := 1) rfl (nI_add _ _) (by decide) rfl (fun ls hl => ?_)
          refine lv_goto (tgt := 4) hx hb dX5_want_49 (by decide) ?_
          refine lv_iload_n hx hb dX5_want_4 rfl (lv_at hl 0 rfl) ?_
          refine lv_bipush (v := nI 12) hx hb dX5_want_5 (by decide) ?_
          refine nv_icmp_ge (by omega) (by omega) hx hb dX5_want_7 (tgt := 52) (by decide) (fun c_7 => ?_) (fun c_7 => ?_)
          · have n_7 : ¬ ((i + 1) < 12) := by omega
            exact gr_v F hr hlk hK hR dX5_want_52 (by rw [← hRw])
          · have n_7 : ¬ (12 ≤ (i + 1)) := by omega
            refine lv_aload_nN hx hb dX5_want_10 rfl (lv_at hl 1 rfl) ?_
            refine lv_ifnullN (tgt := 52) hx hb dX5_want_11 (by decide) ?_
            exact gr_v F hr hlk hK hR dX5_want_52 (by rw [← hRw])
        · obtain ⟨hpx, hpe⟩ := sI_par hs hyn hp
          have hQ2 : rwL S dd (S 3 y).toNatClampNeg st2 = R0 := by rw [← hQ, rwL, if_neg (not_not_intro c_19b), if_neg hp, hr1, hr2]
          have hpp : pref adr S y = some (adr (nk (S 3 y).toNatClampNeg 0)) := par_yes hp
          generalize (S 3 y).toNatClampNeg = z at hpx hQ2 hpp
          refine lv_aload_n hx hb dX5_want_41 rfl (lv_at hl 1 rfl) ?_
          refine kg_3 F hK hR (by omega) fl_X5_81 dX5_want_42 ?_
          rw [hpp]
          refine lv_astore_n (lv' := [(2, .ref (adr (nk z 0))), (3, .int (nI i)), (0, .ref (adr 6)), (1, .ref (adr (nk x 0)))]) hx hb dX5_want_45 rfl hl (by decide) rfl (fun ls hl => ?_)
          refine lv_iinc (v := nI (i + 1)) (lv' := [(3, .int (nI (i + 1))), (2, .ref (adr (nk z 0))), (0, .ref (adr 6)), (1, .ref (adr (nk x 0)))]) hx hb dX5_want_46 hl (k := 1) rfl (nI_add _ _) (by decide) rfl (fun ls hl => ?_)
          refine lv_goto (tgt := 4) hx hb dX5_want_49 (by decide) ?_
          exact ih _ _ _ (i + 1) z st2 hI2 (by omega) (by omega) (by omega) hQ2 (lv_sub hl [0, 1, 2, 3] rfl) hR
set_option maxHeartbeats 4000000 in
set_option maxRecDepth 100000 in
/-- Reach.follow(method) -/
theorem c_X5_follow (l : Launch) (G : gw_G) (A : Nat → Prop) (adr : Nat → Nat) (n : Nat) (S Y : Nat → Nat → Int32) (L : Int64) (x q ac : Nat) (hs : sI n S) (hxn : x < n) (hq : q < 4) (hac : S 10 (4 * x + q) = nI ac) (h10 : ac ≤ 10) (hI : rI n (Y, L)) : gm l yX5_follow cX5_follow 4 none (rmL 17) 0 0 A [.ref (adr 6), .ref (adr (nk x (6 + q)))] (gW G A adr (ccel G adr n S Y L)) (gW G A adr (ccel G adr n S ((rfL S x q ac 0 (Y, L)).1) ((rfL S x q ac 0 (Y, L)).2))) none := by
  refine gm_of (own := RX5) (by decide) rfl (Nat.le_of_ble_eq_true rfl) ?_
  intro p e s m below meth c ls F hml hr hlk hnm hK hR hl
  have hx := F.1
  have hb := F.2.1
  replace hl : lv_has ls 4 [(0, .ref (adr 6)), (1, .ref (adr (nk x (6 + q))))] := hl
  have hn12 := hs.1
  refine lv_iconst (v := nI 0) hx hb dX5_follow_0 (by decide) ?_
  refine lv_istore_n (lv' := [(2, .int (nI 0)), (0, .ref (adr 6)), (1, .ref (adr (nk x (6 + q))))]) hx hb dX5_follow_1 rfl hl (by decide) rfl (fun ls hl => ?_)
  obtain ⟨R0, hR0⟩ : ∃ R0, R0 = rfL S x q ac 0 (Y, L) := ⟨_, rfl⟩
  rw [← hR0]
  refine lp_gen hR (fun H locs hR => ?_)
  obtain ⟨i, hi0⟩ : ∃ i : Nat, i = 0 := ⟨_, rfl⟩
  obtain ⟨st, hst0⟩ : ∃ st : rST, st = (Y, L) := ⟨_, rfl⟩
  have hI0 : rI n st := by rw [hst0]; exact hI
  have hle : i ≤ ac := by omega
  have hQ : rfL S x q (ac - i) i st = R0 := by rw [hR0, hi0, hst0, Nat.sub_zero]
  generalize hdd : ac - i = dd at hQ
  replace hl : lv_has ls 4 [(2, .int (nI i)), (0, .ref (adr 6)), (1, .ref (adr (nk x (6 + q))))] := by rw [hi0]; exact lv_sub hl [0, 1, 2] rfl
  replace hR : cB G A adr n S st.1 st.2 s.heap H locs := by rw [hst0]; exact hR
  clear hR0 hi0 hst0 hI
  induction dd generalizing i st ls H locs with
  | zero =>
    have hRw : st = R0 := hQ
    refine lv_iload_n hx hb dX5_follow_2 rfl (lv_at hl 0 rfl) ?_
    refine lv_aload_n hx hb dX5_follow_3 rfl (lv_at hl 2 rfl) ?_
    refine mg_2 F hK hR (by omega) (by omega) fl_X5_45 dX5_follow_4 ?_
    refine lv_eq (hac) ?_
    refine nv_icmp_ge (by omega) (by omega) hx hb dX5_follow_7 (tgt := 63) (by decide) (fun c_7 => ?_) (fun c_7 => absurd c_7 (by omega))
    exact gr_v F hr hlk hK hR dX5_follow_63 (by rw [← hRw])
  | succ dd ih =>
    have hia : i < (S 10 (4 * x + q)).toNatClampNeg := by rw [hac, nI_clamp (by omega)]; omega
    have hi2 : i < ac := by omega
    have hok := sI_act hs hxn hq hia
    obtain ⟨so, hso12, hso, hv⟩ := act_so hok
    have e0 : (S 11 (aT x q i)).toNatClampNeg = so := by rw [hso, nI_clamp (by omega)]
    replace hso : S 11 (40 * (4 * x + q) + 4 * i) = nI so := hso
    refine lv_iload_n hx hb dX5_follow_2 rfl (lv_at hl 0 rfl) ?_
    refine lv_aload_n hx hb dX5_follow_3 rfl (lv_at hl 2 rfl) ?_
    refine mg_2 F hK hR (by omega) (by omega) fl_X5_45 dX5_follow_4 ?_
    refine lv_eq (hac) ?_
    refine nv_icmp_ge (by omega) (by omega) hx hb dX5_follow_7 (tgt := 63) (by decide) (fun c_7 => absurd c_7 (by omega)) (fun c_7 => ?_)
    refine lv_aload_n hx hb dX5_follow_10 rfl (lv_at hl 2 rfl) ?_
    refine mg_1 F hK hR (by omega) (by omega) fl_X5_46 dX5_follow_11 ?_
    refine lv_iload_n hx hb dX5_follow_14 rfl (lv_at hl 0 rfl) ?_
    refine ac_ld F hK hR (by omega) (by omega) (hac) (by omega) (by omega) dX5_follow_15 ?_
    refine lv_astore_n (lv' := [(3, .ref (adr (nk x (14 + 10 * q + i)))), (2, .int (nI i)), (0, .ref (adr 6)), (1, .ref (adr (nk x (6 + q))))]) hx hb dX5_follow_16 rfl hl (by decide) rfl (fun ls hl => ?_)
    refine lv_aload_n hx hb dX5_follow_17 rfl (lv_at hl 0 rfl) ?_
    refine gcVi (As := []) F hK hR hml cv_X5_50 (o := nk x (14 + 10 * q + i)) ((ccel_k (by omega) (by omega)).trans (kc_t (by omega) (hac) (by omega) (by omega))) rfl rfl (c_X0_wants l G A adr n S st.1 st.2 x q i hs hxn hq hia) ⟨rfl, rfl⟩ ⟨by dsimp only [rmL]; omega, by dsimp only [rmL]; omega⟩ rfl rfl hl.1 (Nat.le_of_ble_eq_true rfl) dX5_follow_18 ⟨Nat.zero_le _, Nat.zero_le _⟩ (fun H locs hR => ?_)
    refine lv_if_eq (tgt := 32) hx hb dX5_follow_21 (by decide) (fun c_21 => ?_) (fun c_21 => ?_)
    · have hk : st = rfA S x q i st := by rw [rfA, if_pos (show evW S x q i = -1 by by_cases q : evW S x q i = -1; exact q; rw [if_neg q] at c_21; exact absurd c_21 (by decide))]
      have hI1 : rI n (rfA S x q i st) := by rw [← hk]; exact hI0
      generalize hrA : rfA S x q i st = st1 at hk hI1
      replace hR : cB G A adr n S st1.1 st1.2 s.heap H locs := by rw [← hk]; exact hR
      clear hk
      refine lv_aload_n hx hb dX5_follow_32 rfl (lv_at hl 0 rfl) ?_
      refine ag_0 F hK hR (by omega) (by omega) (hac) (by omega) (by omega) fl_X5_60 dX5_follow_33 ?_
      refine lv_eq (hso) ?_
      refine lv_bipush (v := nI 7) hx hb dX5_follow_36 (by decide) ?_
      refine nv_icmp_ne (by omega) (by omega) hx hb dX5_follow_38 (tgt := 57) (by decide) (fun c_38 => ?_) (fun c_38 => ?_)
      · have hk : st1 = rfB S x q i st1 := by rw [rfB, if_neg (by rw [e0]; omega)]
        have hI2 : rI n (rfB S x q i st1) := by rw [← hk]; exact hI1
        generalize hrB : rfB S x q i st1 = st2 at hk hI2
        replace hR : cB G A adr n S st2.1 st2.2 s.heap H locs := by rw [← hk]; exact hR
        clear hk
        refine lv_iinc (v := nI (i + 1)) (lv' := [(2, .int (nI (i + 1))), (3, .ref (adr (nk x (14 + 10 * q + i)))), (0, .ref (adr 6)), (1, .ref (adr (nk x (6 + q))))]) hx hb dX5_follow_57 hl (k := 1) rfl (nI_add _ _) (by decide) rfl (fun ls hl => ?_)
        refine lv_goto (tgt := 2) hx hb dX5_follow_60 (by decide) ?_
        have hQ2 : rfL S x q dd (i + 1) st2 = R0 := by rw [← hQ, rfL, hrA, hrB]
        exact ih _ _ _ (i + 1) st2 hI2 (by omega) (by omega) hQ2 (lv_sub hl [0, 2, 3] rfl) hR
      · obtain rfl : so = 7 := c_38
        obtain ⟨g, hg, hgg⟩ := are_7 hv
        obtain ⟨y, hy, hye⟩ := act_z7 hok hso (by omega) (by omega)
        have hoth : oth (S 11) x (40 * (4 * x + q) + 4 * i) = y := oth_7 hso (by omega) hye (by omega)
        obtain ⟨sz1, hs48, hz1, -⟩ := id hI1
        refine lv_aload_n hx hb dX5_follow_41 rfl (lv_at hl 2 rfl) ?_
        refine lv_aload_n hx hb dX5_follow_42 rfl (lv_at hl 0 rfl) ?_
        refine ag_1 F hK hR (by omega) (by omega) (hac) (by omega) (by omega) fl_X5_56 dX5_follow_43 ?_
        rw [hoth]
        refine kg_10 F hK hR (by omega) fl_X5_37 dX5_follow_46 ?_
        refine lv_aload_n hx hb dX5_follow_49 rfl (lv_at hl 0 rfl) ?_
        refine ag_3 F hK hR (by omega) (by omega) (hac) (by omega) (by omega) fl_X5_63 dX5_follow_50 ?_
        refine lv_eq (hgg) ?_
        refine mt_ld F hK hR (by omega) (by omega) dX5_follow_53 ?_
        refine gcVv (As := [.ref (adr (nk y (6 + g)))]) F hK hR hml cv_X5_38 (o := 6) (rfl) rfl rfl (c_X5_list l G A adr n S st1.1 st1.2 y g sz1 (by omega) (by omega) hz1 (by omega) (by omega)) ⟨rfl, rfl⟩ ⟨by dsimp only [rmL]; omega, by dsimp only [rmL]; omega⟩ rfl rfl hl.1 (Nat.le_of_ble_eq_true rfl) dX5_follow_54 ⟨Nat.zero_le _, Nat.zero_le _⟩ (fun H locs hR => ?_)
        have hk : rl_list (4 * y + g) st1 = rfB S x q i st1 := by rw [rfB, if_pos e0, show S 11 (aT x q i + 1) = nI y from hye, show S 11 (aT x q i + 2) = nI g from hgg, nI_clamp (by omega), nI_clamp (by omega)]
        have hI2 : rI n (rfB S x q i st1) := by rw [← hk]; exact rI_list hI1 (by omega)
        generalize hrB : rfB S x q i st1 = st2 at hk hI2
        replace hR : cB G A adr n S st2.1 st2.2 s.heap H locs := by rw [← hk]; exact hR
        clear hk
        refine lv_iinc (v := nI (i + 1)) (lv' := [(2, .int (nI (i + 1))), (3, .ref (adr (nk x (14 + 10 * q + i)))), (0, .ref (adr 6)), (1, .ref (adr (nk x (6 + q))))]) hx hb dX5_follow_57 hl (k := 1) rfl (nI_add _ _) (by decide) rfl (fun ls hl => ?_)
        refine lv_goto (tgt := 2) hx hb dX5_follow_60 (by decide) ?_
        have hQ2 : rfL S x q dd (i + 1) st2 = R0 := by rw [← hQ, rfL, hrA, hrB]
        exact ih _ _ _ (i + 1) st2 hI2 (by omega) (by omega) hQ2 (lv_sub hl [0, 2, 3] rfl) hR
    · have hw : ¬ evW S x q i = -1 := fun q => c_21 (by rw [if_pos q]; rfl)
      have hzn := (evW_z hok hn12 hw).1
      have hoz : oth (S 11) x (40 * (4 * x + q) + 4 * i) = _ := oth_evW hok hn12 hw
      generalize hzz : (evW S x q i).toNatClampNeg = z at hzn hoz
      refine lv_aload_n hx hb dX5_follow_24 rfl (lv_at hl 2 rfl) ?_
      refine lv_aload_n hx hb dX5_follow_25 rfl (lv_at hl 0 rfl) ?_
      refine ag_1 F hK hR (by omega) (by omega) (hac) (by omega) (by omega) fl_X5_56 dX5_follow_26 ?_
      rw [hoz]
      refine gcVv (As := [.ref (adr (nk z 0))]) F hK hR hml cv_X5_33 (o := 6) (rfl) rfl rfl (c_X5_want l G A adr n S st.1 st.2 z hs hzn hI0) ⟨rfl, rfl⟩ ⟨by dsimp only [rmL]; omega, by dsimp only [rmL]; omega⟩ rfl rfl hl.1 (Nat.le_of_ble_eq_true rfl) dX5_follow_29 ⟨Nat.zero_le _, Nat.zero_le _⟩ (fun H locs hR => ?_)
      have hk : rwL S 12 z st = rfA S x q i st := by rw [rfA, if_neg hw, hzz]
      have hI1 : rI n (rfA S x q i st) := by rw [← hk]; exact rI_wL hs 12 z st hzn hI0
      generalize hrA : rfA S x q i st = st1 at hk hI1
      replace hR : cB G A adr n S st1.1 st1.2 s.heap H locs := by rw [← hk]; exact hR
      clear hk
      refine lv_aload_n hx hb dX5_follow_32 rfl (lv_at hl 0 rfl) ?_
      refine ag_0 F hK hR (by omega) (by omega) (hac) (by omega) (by omega) fl_X5_60 dX5_follow_33 ?_
      refine lv_eq (hso) ?_
      refine lv_bipush (v := nI 7) hx hb dX5_follow_36 (by decide) ?_
      refine nv_icmp_ne (by omega) (by omega) hx hb dX5_follow_38 (tgt := 57) (by decide) (fun c_38 => ?_) (fun c_38 => ?_)
      · have hk : st1 = rfB S x q i st1 := by rw [rfB, if_neg (by rw [e0]; omega)]
        have hI2 : rI n (rfB S x q i st1) := by rw [← hk]; exact hI1
        generalize hrB : rfB S x q i st1 = st2 at hk hI2
        replace hR : cB G A adr n S st2.1 st2.2 s.heap H locs := by rw [← hk]; exact hR
        clear hk
        refine lv_iinc (v := nI (i + 1)) (lv' := [(2, .int (nI (i + 1))), (3, .ref (adr (nk x (14 + 10 * q + i)))), (0, .ref (adr 6)), (1, .ref (adr (nk x (6 + q))))]) hx hb dX5_follow_57 hl (k := 1) rfl (nI_add _ _) (by decide) rfl (fun ls hl => ?_)
        refine lv_goto (tgt := 2) hx hb dX5_follow_60 (by decide) ?_
        have hQ2 : rfL S x q dd (i + 1) st2 = R0 := by rw [← hQ, rfL, hrA, hrB]
        exact ih _ _ _ (i + 1) st2 hI2 (by omega) (by omega) hQ2 (lv_sub hl [0, 2, 3] rfl) hR
      · obtain rfl : so = 7 := c_38
        obtain ⟨g, hg, hgg⟩ := are_7 hv
        obtain ⟨y, hy, hye⟩ := act_z7 hok hso (by omega) (by omega)
        have hoth : oth (S 11) x (40 * (4 * x + q) + 4 * i) = y := oth_7 hso (by omega) hye (by omega)
        obtain ⟨sz1, hs48, hz1, -⟩ := id hI1
        refine lv_aload_n hx hb dX5_follow_41 rfl (lv_at hl 2 rfl) ?_
        refine lv_aload_n hx hb dX5_follow_42 rfl (lv_at hl 0 rfl) ?_
        refine ag_1 F hK hR (by omega) (by omega) (hac) (by omega) (by omega) fl_X5_56 dX5_follow_43 ?_
        rw [hoth]
        refine kg_10 F hK hR (by omega) fl_X5_37 dX5_follow_46 ?_
        refine lv_aload_n hx hb dX5_follow_49 rfl (lv_at hl 0 rfl) ?_
        refine ag_3 F hK hR (by omega) (by omega) (hac) (by omega) (by omega) fl_X5_63 dX5_follow_50 ?_
        refine lv_eq (hgg) ?_
        refine mt_ld F hK hR (by omega) (by omega) dX5_follow_53 ?_
        refine gcVv (As := [.ref (adr (nk y (6 + g)))]) F hK hR hml cv_X5_38 (o := 6) (rfl) rfl rfl (c_X5_list l G A adr n S st1.1 st1.2 y g sz1 (by omega) (by omega) hz1 (by omega) (by omega)) ⟨rfl, rfl⟩ ⟨by dsimp only [rmL]; omega, by dsimp only [rmL]; omega⟩ rfl rfl hl.1 (Nat.le_of_ble_eq_true rfl) dX5_follow_54 ⟨Nat.zero_le _, Nat.zero_le _⟩ (fun H locs hR => ?_)
        have hk : rl_list (4 * y + g) st1 = rfB S x q i st1 := by rw [rfB, if_pos e0, show S 11 (aT x q i + 1) = nI y from hye, show S 11 (aT x q i + 2) = nI g from hgg, nI_clamp (by omega), nI_clamp (by omega)]
        have hI2 : rI n (rfB S x q i st1) := by rw [← hk]; exact rI_list hI1 (by omega)
        generalize hrB : rfB S x q i st1 = st2 at hk hI2
        replace hR : cB G A adr n S st2.1 st2.2 s.heap H locs := by rw [← hk]; exact hR
        clear hk
        refine lv_iinc (v := nI (i + 1)) (lv' := [(2, .int (nI (i + 1))), (3, .ref (adr (nk x (14 + 10 * q + i)))), (0, .ref (adr 6)), (1, .ref (adr (nk x (6 + q))))]) hx hb dX5_follow_57 hl (k := 1) rfl (nI_add _ _) (by decide) rfl (fun ls hl => ?_)
        refine lv_goto (tgt := 2) hx hb dX5_follow_60 (by decide) ?_
        have hQ2 : rfL S x q dd (i + 1) st2 = R0 := by rw [← hQ, rfL, hrA, hrB]
        exact ih _ _ _ (i + 1) st2 hI2 (by omega) (by omega) hQ2 (lv_sub hl [0, 2, 3] rfl) hR
set_option maxHeartbeats 4000000 in
set_option maxRecDepth 100000 in
/-- Reach.ofMethod(kind, method) -/
theorem c_X5_ofMethod (l : Launch) (G : gw_G) (A : Nat → Prop) (adr : Nat → Nat) (n : Nat) (S Y : Nat → Nat → Int32) (L : Int64) (x q : Nat) (hs : sI n S) (hxn : x < n) (hq : q < 4) : gm l yX5_ofMethod cX5_ofMethod 4 (some .int) (rmL 18) 0 0 A [.ref (adr 6), .ref (adr (nk x 0)), .int (nI q)] (gW G A adr (ccel G adr n S Y L)) (gW G A adr (ccel G adr n S ((rOf S x q (Y, L)).1) ((rOf S x q (Y, L)).2))) (some (.int ((rOf S x q (Y, L)).1 2 0))) := by
  refine gm_of (own := RX5) (by decide) rfl (Nat.le_of_ble_eq_true rfl) ?_
  intro p e s m below meth c ls F hml hr hlk hnm hK hR hl
  have hx := F.1
  have hb := F.2.1
  replace hl : lv_has ls 4 [(0, .ref (adr 6)), (1, .ref (adr (nk x 0))), (2, .int (nI q))] := hl
  have hn12 := hs.1
  refine lv_aload_n hx hb dX5_ofMethod_0 rfl (lv_at hl 0 rfl) ?_
  refine gcVv (As := []) F hK hR hml cv_X5_30 (o := 6) (rfl) rfl rfl (c_X5_clear l G A adr n S Y L) ⟨rfl, rfl⟩ ⟨by dsimp only [rmL]; omega, by dsimp only [rmL]; omega⟩ rfl rfl hl.1 (Nat.le_of_ble_eq_true rfl) dX5_ofMethod_1 ⟨Nat.zero_le _, Nat.zero_le _⟩ (fun H locs hR => ?_)
  refine lv_aload_n hx hb dX5_ofMethod_4 rfl (lv_at hl 0 rfl) ?_
  refine lv_aload_n hx hb dX5_ofMethod_5 rfl (lv_at hl 1 rfl) ?_
  refine gcVv (As := [.ref (adr (nk x 0))]) F hK hR hml cv_X5_33 (o := 6) (rfl) rfl rfl (c_X5_want l G A adr n S (rcl0 (Y, L)).1 (rcl0 (Y, L)).2 x hs hxn rI_cl) ⟨rfl, rfl⟩ ⟨by dsimp only [rmL]; omega, by dsimp only [rmL]; omega⟩ rfl rfl hl.1 (Nat.le_of_ble_eq_true rfl) dX5_ofMethod_6 ⟨Nat.zero_le _, Nat.zero_le _⟩ (fun H locs hR => ?_)
  have hI1 := rI_wL hs 12 x (rcl0 (Y, L)) hxn rI_cl
  obtain ⟨R0, hR0⟩ : ∃ R0, R0 = rOf S x q (Y, L) := ⟨_, rfl⟩
  rw [← hR0]
  rw [rOf] at hR0
  generalize hr1 : rwL S 12 x (rcl0 (Y, L)) = st1 at hI1 hR hR0
  obtain ⟨sz1, hs48, hz1, -⟩ := id hI1
  refine lv_aload_n hx hb dX5_ofMethod_9 rfl (lv_at hl 0 rfl) ?_
  refine lv_aload_n hx hb dX5_ofMethod_10 rfl (lv_at hl 1 rfl) ?_
  refine kg_10 F hK hR (by omega) fl_X5_37 dX5_ofMethod_11 ?_
  refine lv_iload_n hx hb dX5_ofMethod_14 rfl (lv_at hl 2 rfl) ?_
  refine mt_ld F hK hR (by omega) (by omega) dX5_ofMethod_15 ?_
  refine gcVv (As := [.ref (adr (nk x (6 + q)))]) F hK hR hml cv_X5_38 (o := 6) (rfl) rfl rfl (c_X5_list l G A adr n S st1.1 st1.2 x q sz1 hxn hq hz1 (by omega) (by omega)) ⟨rfl, rfl⟩ ⟨by dsimp only [rmL]; omega, by dsimp only [rmL]; omega⟩ rfl rfl hl.1 (Nat.le_of_ble_eq_true rfl) dX5_ofMethod_16 ⟨Nat.zero_le _, Nat.zero_le _⟩ (fun H locs hR => ?_)
  refine lv_iconst (v := nI 0) hx hb dX5_ofMethod_19 (by decide) ?_
  refine lv_istore_n (lv' := [(3, .int (nI 0)), (0, .ref (adr 6)), (1, .ref (adr (nk x 0))), (2, .int (nI q))]) hx hb dX5_ofMethod_20 rfl hl (by decide) rfl (fun ls hl => ?_)
  have hI2 := rI_list (mm := 4 * x + q) hI1 (by omega)
  refine lp_gen hR (fun H locs hR => ?_)
  obtain ⟨i, hi0⟩ : ∃ i : Nat, i = 0 := ⟨_, rfl⟩
  generalize rl_list (4 * x + q) st1 = st at hI2 hR0 hR
  have hle : i ≤ 48 := by omega
  have hQ : rmL2 S (48 - i) i st = R0 := by rw [hR0, hi0]
  generalize hdd : 48 - i = dd at hQ
  replace hl : lv_has ls 4 [(3, .int (nI i)), (0, .ref (adr 6)), (1, .ref (adr (nk x 0))), (2, .int (nI q))] := by rw [hi0]; exact lv_sub hl [0, 1, 2, 3] rfl
  clear hR0 hi0
  rename rI n st => hI0
  induction dd generalizing i st ls H locs with
  | zero =>
    obtain ⟨sz, hs48, hz1, hz3⟩ := id hI0
    have hrz : rsz st = sz := rsz_eq hz1 hs48
    have hRw : st = R0 := hQ
    refine lv_iload_n hx hb dX5_ofMethod_21 rfl (lv_at hl 0 rfl) ?_
    refine lv_aload_n hx hb dX5_ofMethod_22 rfl (lv_at hl 1 rfl) ?_
    refine hg_3 F hK hR fl_X5_27 dX5_ofMethod_23 ?_
    refine lv_eq (hz1) ?_
    refine nv_icmp_ge (by omega) (by omega) hx hb dX5_ofMethod_26 (tgt := 51) (by decide) (fun c_26 => ?_) (fun c_26 => absurd c_26 (by omega))
    refine lv_aload_n hx hb dX5_ofMethod_51 rfl (lv_at hl 1 rfl) ?_
    refine hg_0 F hK hR fl_X5_11 dX5_ofMethod_52 ?_
    exact gr_i F hr hlk hK hR dX5_ofMethod_55 (by rw [← hRw]) (by rw [← hRw])
  | succ dd ih =>
    obtain ⟨sz, hs48, hz1, hz3⟩ := id hI0
    have hrz : rsz st = sz := rsz_eq hz1 hs48
    refine lv_iload_n hx hb dX5_ofMethod_21 rfl (lv_at hl 0 rfl) ?_
    refine lv_aload_n hx hb dX5_ofMethod_22 rfl (lv_at hl 1 rfl) ?_
    refine hg_3 F hK hR fl_X5_27 dX5_ofMethod_23 ?_
    refine lv_eq (hz1) ?_
    refine nv_icmp_ge (by omega) (by omega) hx hb dX5_ofMethod_26 (tgt := 51) (by decide) (fun c_26 => ?_) (fun c_26 => ?_)
    · have n_26 : ¬ (i < sz) := by omega
      refine lv_aload_n hx hb dX5_ofMethod_51 rfl (lv_at hl 1 rfl) ?_
      refine hg_0 F hK hR fl_X5_11 dX5_ofMethod_52 ?_
      exact gr_i F hr hlk hK hR dX5_ofMethod_55 (by rw [← hQ, rmL2, if_pos (by rw [hrz]; omega)]) (by rw [← hQ, rmL2, if_pos (by rw [hrz]; omega)])
    · have n_26 : ¬ (sz ≤ i) := by omega
      obtain ⟨mm, hmn, hme⟩ := hz3 i (by omega)
      have hm4 : 4 * (mm / 4) + mm % 4 = mm := by omega
      obtain ⟨ac, hac, h10⟩ : ∃ ac, S 10 (4 * (mm / 4) + mm % 4) = nI ac ∧ ac ≤ 10 := ⟨_, (sI_ac hs (by omega)).2, (sI_ac hs (by omega)).1⟩
      refine lv_iload_n hx hb dX5_ofMethod_29 rfl (lv_at hl 0 rfl) ?_
      refine lv_bipush (v := nI 48) hx hb dX5_ofMethod_30 (by decide) ?_
      refine nv_icmp_ge (by omega) (by omega) hx hb dX5_ofMethod_32 (tgt := 51) (by decide) (fun c_32 => absurd c_32 (by omega)) (fun c_32 => ?_)
      refine lv_aload_n hx hb dX5_ofMethod_35 rfl (lv_at hl 1 rfl) ?_
      refine lv_aload_n hx hb dX5_ofMethod_36 rfl (lv_at hl 1 rfl) ?_
      refine hg_2 F hK hR fl_X5_23 dX5_ofMethod_37 ?_
      refine lv_iload_n hx hb dX5_ofMethod_40 rfl (lv_at hl 0 rfl) ?_
      refine rm_ld F hK hR (by omega) (hme) (by omega) dX5_ofMethod_41 ?_
      refine gcVv (As := [.ref (adr (nk (mm / 4) (6 + mm % 4)))]) F hK hR hml cv_X5_42 (o := 6) (rfl) rfl rfl (c_X5_follow l G A adr n S st.1 st.2 (mm / 4) (mm % 4) ac hs (by omega) (by omega) hac h10 hI0) ⟨rfl, rfl⟩ ⟨by dsimp only [rmL]; omega, by dsimp only [rmL]; omega⟩ rfl rfl hl.1 (Nat.le_of_ble_eq_true rfl) dX5_ofMethod_42 ⟨Nat.zero_le _, Nat.zero_le _⟩ (fun H locs hR => ?_)
      refine lv_iinc (v := nI (i + 1)) (lv' := [(3, .int (nI (i + 1))), (0, .ref (adr 6)), (1, .ref (adr (nk x 0))), (2, .int (nI q))]) hx hb dX5_ofMethod_45 hl (k := 0) rfl (nI_add _ _) (by decide) rfl (fun ls hl => ?_)
      refine lv_goto (tgt := 21) hx hb dX5_ofMethod_48 (by decide) ?_
      skip
      have hk : rfL S (mm / 4) (mm % 4) ac 0 st = rfo S mm st := by rw [rfo, show S 10 mm = nI ac by rw [← hac, hm4], nI_clamp (by omega)]
      have hQ2 : rmL2 S dd (i + 1) (rfo S mm st) = R0 := by rw [← hQ, rmL2, if_neg (by rw [hrz]; omega), hme, nI_clamp (by omega)]
      have hI2 := rI_fo hs hmn hI0
      exact ih _ _ _ (i + 1) (rfo S mm st) hI2 (by rw [← hk]; exact hR) (by omega) (by omega) hQ2 (lv_sub hl [0, 1, 2, 3] rfl)
set_option maxHeartbeats 4000000 in
set_option maxRecDepth 100000 in
/-- Reach.ofStart(kind) -/
theorem c_X5_ofStart (l : Launch) (G : gw_G) (A : Nat → Prop) (adr : Nat → Nat) (n : Nat) (S Y : Nat → Nat → Int32) (L : Int64) (x : Nat) (hs : sI n S) (hxn : x < n) : gm l yX5_ofStart cX5_ofStart 2 (some .int) (rmL 17) 0 0 A [.ref (adr 6), .ref (adr (nk x 0))] (gW G A adr (ccel G adr n S Y L)) (gW G A adr (ccel G adr n S ((rSt S x (Y, L)).1) ((rSt S x (Y, L)).2))) (some (.int ((rSt S x (Y, L)).1 2 0))) := by
  refine gm_of (own := RX5) (by decide) rfl (Nat.le_of_ble_eq_true rfl) ?_
  intro p e s m below meth c ls F hml hr hlk hnm hK hR hl
  have hx := F.1
  have hb := F.2.1
  replace hl : lv_has ls 2 [(0, .ref (adr 6)), (1, .ref (adr (nk x 0)))] := hl
  have hn12 := hs.1
  refine lv_aload_n hx hb dX5_ofStart_0 rfl (lv_at hl 0 rfl) ?_
  refine gcVv (As := []) F hK hR hml cv_X5_30 (o := 6) (rfl) rfl rfl (c_X5_clear l G A adr n S Y L) ⟨rfl, rfl⟩ ⟨by dsimp only [rmL]; omega, by dsimp only [rmL]; omega⟩ rfl rfl hl.1 (Nat.le_of_ble_eq_true rfl) dX5_ofStart_1 ⟨Nat.zero_le _, Nat.zero_le _⟩ (fun H locs hR => ?_)
  refine lv_aload_n hx hb dX5_ofStart_4 rfl (lv_at hl 0 rfl) ?_
  refine lv_aload_n hx hb dX5_ofStart_5 rfl (lv_at hl 1 rfl) ?_
  refine gcVv (As := [.ref (adr (nk x 0))]) F hK hR hml cv_X5_33 (o := 6) (rfl) rfl rfl (c_X5_want l G A adr n S (rcl0 (Y, L)).1 (rcl0 (Y, L)).2 x hs hxn rI_cl) ⟨rfl, rfl⟩ ⟨by dsimp only [rmL]; omega, by dsimp only [rmL]; omega⟩ rfl rfl hl.1 (Nat.le_of_ble_eq_true rfl) dX5_ofStart_6 ⟨Nat.zero_le _, Nat.zero_le _⟩ (fun H locs hR => ?_)
  refine lv_aload_n hx hb dX5_ofStart_9 rfl (lv_at hl 0 rfl) ?_
  refine hg_0 F hK hR fl_X5_11 dX5_ofStart_10 ?_
  exact gr_i F hr hlk hK hR dX5_ofStart_13 (rfl) (rfl)
set_option maxHeartbeats 4000000 in
set_option maxRecDepth 100000 in
/-- may: no such x -/
theorem c_X6_mayU (l : Launch) (G : gw_G) (A : Nat → Prop) (adr : Nat → Nat) (n : Nat) (S Y : Nat → Nat → Int32) (L : Int64) (x0 x1 : Int32) (hs : sI n S) (hno : sp_has (S 0 0) x0 = 0) : gm l yX6_may cX6_may 4 (some .int) (rmL 20) 0 0 A [.ref (adr 0), .int x0, .int x1] (gW G A adr (ccel G adr n S Y L)) (gW G A adr (ccel G adr n S Y L)) (some (.int (-2))) := by
  refine gm_of (own := RX6) (by decide) rfl (Nat.le_of_ble_eq_true rfl) ?_
  intro p e s m below meth c ls F hml hr hlk hnm hK hR hl
  have hx := F.1
  have hb := F.2.1
  replace hl : lv_has ls 4 [(0, .ref (adr 0)), (1, .int x0), (2, .int x1)] := hl
  have hn12 := hs.1
  have hn0 := hs.2.1
  refine lv_aload_n hx hb dX6_may_0 rfl (lv_at hl 0 rfl) ?_
  refine lv_iload_n hx hb dX6_may_1 rfl (lv_at hl 1 rfl) ?_
  refine gcV (As := [.int x0]) F hK hR hml cv_X6_33 (o := 0) (rfl) rfl rfl (c_X6_findN l G A adr n S Y L x0 hn0 hn12 hno) ⟨rfl, rfl⟩ ⟨by dsimp only [rmL]; omega, by dsimp only [rmL]; omega⟩ rfl rfl hl.1 (Nat.le_of_ble_eq_true rfl) dX6_may_2 ⟨Nat.zero_le _, Nat.zero_le _⟩ (fun H locs hR => ?_)
  refine lv_astore_nN (lv' := [(3, .null), (0, .ref (adr 0)), (1, .int x0), (2, .int x1)]) hx hb dX6_may_5 rfl hl (by decide) rfl (fun ls hl => ?_)
  refine lv_aload_nN hx hb dX6_may_6 rfl (lv_at hl 0 rfl) ?_
  refine lv_ifnonnullN hx hb dX6_may_7 ?_
  refine lv_bipush (v := (-2)) hx hb dX6_may_10 (by decide) ?_
  exact gr_i F hr hlk hK hR dX6_may_12 (rfl) (rfl)
set_option maxHeartbeats 4000000 in
set_option maxRecDepth 100000 in
/-- may: no such method -/
theorem c_X6_mayO (l : Launch) (G : gw_G) (A : Nat → Prop) (adr : Nat → Nat) (n : Nat) (S Y : Nat → Nat → Int32) (L : Int64) (x : Nat) (x1 : Int32) (hs : sI n S) (hxn : x < n) (hm : sp_isF x1 = 0) : gm l yX6_may cX6_may 4 (some .int) (rmL 20) 0 0 A [.ref (adr 0), .int (nI x), .int x1] (gW G A adr (ccel G adr n S Y L)) (gW G A adr (ccel G adr n S Y L)) (some (.int (-3))) := by
  refine gm_of (own := RX6) (by decide) rfl (Nat.le_of_ble_eq_true rfl) ?_
  intro p e s m below meth c ls F hml hr hlk hnm hK hR hl
  have hx := F.1
  have hb := F.2.1
  replace hl : lv_has ls 4 [(0, .ref (adr 0)), (1, .int (nI x)), (2, .int x1)] := hl
  have hn12 := hs.1
  have hn0 := hs.2.1
  refine lv_aload_n hx hb dX6_may_0 rfl (lv_at hl 0 rfl) ?_
  refine lv_iload_n hx hb dX6_may_1 rfl (lv_at hl 1 rfl) ?_
  refine gcV (As := [.int (nI x)]) F hK hR hml cv_X6_33 (o := 0) (rfl) rfl rfl (c_X6_findY l G A adr n S Y L x hn0 hn12 (by omega)) ⟨rfl, rfl⟩ ⟨by dsimp only [rmL]; omega, by dsimp only [rmL]; omega⟩ rfl rfl hl.1 (Nat.le_of_ble_eq_true rfl) dX6_may_2 ⟨Nat.zero_le _, Nat.zero_le _⟩ (fun H locs hR => ?_)
  refine lv_astore_n (lv' := [(3, .ref (adr (nk x 0))), (0, .ref (adr 0)), (1, .int (nI x)), (2, .int x1)]) hx hb dX6_may_5 rfl hl (by decide) rfl (fun ls hl => ?_)
  refine lv_aload_n hx hb dX6_may_6 rfl (lv_at hl 0 rfl) ?_
  refine lv_ifnonnull (tgt := 13) hx hb dX6_may_7 (by decide) ?_
  refine lv_iload_n hx hb dX6_may_13 rfl (lv_at hl 3 rfl) ?_
  refine gcS (As := [.int x1]) F hml cs_X6_73 (c_X2_isMethod l x1) ⟨rfl, rfl⟩ ⟨by dsimp only [rmL]; omega, by dsimp only [rmL]; omega⟩ rfl rfl hl.1 (Nat.le_of_ble_eq_true rfl) dX6_may_14 ⟨Nat.zero_le _, Nat.zero_le _⟩ ?_
  refine lv_if_ne (tgt := 23) hx hb dX6_may_17 (by decide) (fun c_17 => absurd c_17 (fun q => q hm)) (fun c_17 => ?_)
  refine lv_bipush (v := (-3)) hx hb dX6_may_20 (by decide) ?_
  exact gr_i F hr hlk hK hR dX6_may_22 (rfl) (rfl)
set_option maxHeartbeats 4000000 in
set_option maxRecDepth 100000 in
/-- may -/
theorem c_X6_mayK (l : Launch) (G : gw_G) (A : Nat → Prop) (adr : Nat → Nat) (n : Nat) (S Y : Nat → Nat → Int32) (L : Int64) (x q : Nat) (hs : sI n S) (hxn : x < n) (hq : q < 4) : gm l yX6_may cX6_may 4 (some .int) (rmL 20) 0 0 A [.ref (adr 0), .int (nI x), .int (nI q)] (gW G A adr (ccel G adr n S Y L)) (gW G A adr (ccel G adr n S ((rOf S x q (Y, L)).1) ((rOf S x q (Y, L)).2))) (some (.int ((rOf S x q (Y, L)).1 2 0))) := by
  refine gm_of (own := RX6) (by decide) rfl (Nat.le_of_ble_eq_true rfl) ?_
  intro p e s m below meth c ls F hml hr hlk hnm hK hR hl
  have hx := F.1
  have hb := F.2.1
  replace hl : lv_has ls 4 [(0, .ref (adr 0)), (1, .int (nI x)), (2, .int (nI q))] := hl
  have hn12 := hs.1
  have hn0 := hs.2.1
  refine lv_aload_n hx hb dX6_may_0 rfl (lv_at hl 0 rfl) ?_
  refine lv_iload_n hx hb dX6_may_1 rfl (lv_at hl 1 rfl) ?_
  refine gcV (As := [.int (nI x)]) F hK hR hml cv_X6_33 (o := 0) (rfl) rfl rfl (c_X6_findY l G A adr n S Y L x hn0 hn12 (by omega)) ⟨rfl, rfl⟩ ⟨by dsimp only [rmL]; omega, by dsimp only [rmL]; omega⟩ rfl rfl hl.1 (Nat.le_of_ble_eq_true rfl) dX6_may_2 ⟨Nat.zero_le _, Nat.zero_le _⟩ (fun H locs hR => ?_)
  refine lv_astore_n (lv' := [(3, .ref (adr (nk x 0))), (0, .ref (adr 0)), (1, .int (nI x)), (2, .int (nI q))]) hx hb dX6_may_5 rfl hl (by decide) rfl (fun ls hl => ?_)
  refine lv_aload_n hx hb dX6_may_6 rfl (lv_at hl 0 rfl) ?_
  refine lv_ifnonnull (tgt := 13) hx hb dX6_may_7 (by decide) ?_
  refine lv_iload_n hx hb dX6_may_13 rfl (lv_at hl 3 rfl) ?_
  refine gcS (As := [.int (nI q)]) F hml cs_X6_73 (c_X2_isMethod l (nI q)) ⟨rfl, rfl⟩ ⟨by dsimp only [rmL]; omega, by dsimp only [rmL]; omega⟩ rfl rfl hl.1 (Nat.le_of_ble_eq_true rfl) dX6_may_14 ⟨Nat.zero_le _, Nat.zero_le _⟩ ?_
  refine lv_if_ne (tgt := 23) hx hb dX6_may_17 (by decide) (fun c_17 => ?_) (fun c_17 => absurd c_17 (by rw [isF_nI hq]; decide))
  refine lv_aload_n hx hb dX6_may_23 rfl (lv_at hl 1 rfl) ?_
  refine og_3 F hK hR fl_X6_29 dX6_may_24 ?_
  refine lv_aload_n hx hb dX6_may_27 rfl (lv_at hl 0 rfl) ?_
  refine lv_iload_n hx hb dX6_may_28 rfl (lv_at hl 3 rfl) ?_
  refine gcVi (As := [.ref (adr (nk x 0)), .int (nI q)]) F hK hR hml cv_X6_146 (o := 6) (rfl) rfl rfl (c_X5_ofMethod l G A adr n S Y L x q hs hxn hq) ⟨rfl, rfl⟩ ⟨by dsimp only [rmL]; omega, by dsimp only [rmL]; omega⟩ rfl rfl hl.1 (Nat.le_of_ble_eq_true rfl) dX6_may_29 ⟨Nat.zero_le _, Nat.zero_le _⟩ (fun H locs hR => ?_)
  exact gr_i F hr hlk hK hR dX6_may_32 (rfl) (rfl)
set_option maxHeartbeats 4000000 in
set_option maxRecDepth 100000 in
/-- ahead: unknown -/
theorem c_X6_aheadNN (l : Launch) (G : gw_G) (A : Nat → Prop) (adr : Nat → Nat) (n : Nat) (S Y : Nat → Nat → Int32) (L : Int64) (x0 x1 : Int32) (hs : sI n S) (h0 : sp_has (S 0 0) x0 = 0) (h1 : sp_has (S 0 0) x1 = 0) : gm l yX6_ahead cX6_ahead 5 (some .int) (rmL 20) 0 0 A [.ref (adr 0), .int x0, .int x1] (gW G A adr (ccel G adr n S Y L)) (gW G A adr (ccel G adr n S Y L)) (some (.int (-2))) := by
  refine gm_of (own := RX6) (by decide) rfl (Nat.le_of_ble_eq_true rfl) ?_
  intro p e s m below meth c ls F hml hr hlk hnm hK hR hl
  have hx := F.1
  have hb := F.2.1
  replace hl : lv_has ls 5 [(0, .ref (adr 0)), (1, .int x0), (2, .int x1)] := hl
  have hn12 := hs.1
  have hn0 := hs.2.1
  refine lv_aload_n hx hb dX6_ahead_0 rfl (lv_at hl 0 rfl) ?_
  refine lv_iload_n hx hb dX6_ahead_1 rfl (lv_at hl 1 rfl) ?_
  refine gcV (As := [.int x0]) F hK hR hml cv_X6_33 (o := 0) (rfl) rfl rfl (c_X6_findN l G A adr n S Y L x0 hn0 hn12 h0) ⟨rfl, rfl⟩ ⟨by dsimp only [rmL]; omega, by dsimp only [rmL]; omega⟩ rfl rfl hl.1 (Nat.le_of_ble_eq_true rfl) dX6_ahead_2 ⟨Nat.zero_le _, Nat.zero_le _⟩ (fun H locs hR => ?_)
  refine lv_astore_nN (lv' := [(3, .null), (0, .ref (adr 0)), (1, .int x0), (2, .int x1)]) hx hb dX6_ahead_5 rfl hl (by decide) rfl (fun ls hl => ?_)
  refine lv_aload_n hx hb dX6_ahead_6 rfl (lv_at hl 1 rfl) ?_
  refine lv_iload_n hx hb dX6_ahead_7 rfl (lv_at hl 3 rfl) ?_
  refine gcV (As := [.int x1]) F hK hR hml cv_X6_33 (o := 0) (rfl) rfl rfl (c_X6_findN l G A adr n S Y L x1 hn0 hn12 h1) ⟨rfl, rfl⟩ ⟨by dsimp only [rmL]; omega, by dsimp only [rmL]; omega⟩ rfl rfl hl.1 (Nat.le_of_ble_eq_true rfl) dX6_ahead_8 ⟨Nat.zero_le _, Nat.zero_le _⟩ (fun H locs hR => ?_)
  refine lv_astoreN (lv' := [(4, .null), (3, .null), (0, .ref (adr 0)), (1, .int x0), (2, .int x1)]) hx hb dX6_ahead_11 hl (by decide) rfl (fun ls hl => ?_)
  refine lv_aload_nN hx hb dX6_ahead_13 rfl (lv_at hl 1 rfl) ?_
  refine lv_ifnullN (tgt := 22) hx hb dX6_ahead_14 (by decide) ?_
  refine lv_bipush (v := (-2)) hx hb dX6_ahead_22 (by decide) ?_
  exact gr_i F hr hlk hK hR dX6_ahead_24 (rfl) (rfl)
set_option maxHeartbeats 4000000 in
set_option maxRecDepth 100000 in
/-- ahead: unknown -/
theorem c_X6_aheadNY (l : Launch) (G : gw_G) (A : Nat → Prop) (adr : Nat → Nat) (n : Nat) (S Y : Nat → Nat → Int32) (L : Int64) (x0 : Int32) (y : Nat) (hs : sI n S) (h0 : sp_has (S 0 0) x0 = 0) (hyn : y < n) : gm l yX6_ahead cX6_ahead 5 (some .int) (rmL 20) 0 0 A [.ref (adr 0), .int x0, .int (nI y)] (gW G A adr (ccel G adr n S Y L)) (gW G A adr (ccel G adr n S Y L)) (some (.int (-2))) := by
  refine gm_of (own := RX6) (by decide) rfl (Nat.le_of_ble_eq_true rfl) ?_
  intro p e s m below meth c ls F hml hr hlk hnm hK hR hl
  have hx := F.1
  have hb := F.2.1
  replace hl : lv_has ls 5 [(0, .ref (adr 0)), (1, .int x0), (2, .int (nI y))] := hl
  have hn12 := hs.1
  have hn0 := hs.2.1
  refine lv_aload_n hx hb dX6_ahead_0 rfl (lv_at hl 0 rfl) ?_
  refine lv_iload_n hx hb dX6_ahead_1 rfl (lv_at hl 1 rfl) ?_
  refine gcV (As := [.int x0]) F hK hR hml cv_X6_33 (o := 0) (rfl) rfl rfl (c_X6_findN l G A adr n S Y L x0 hn0 hn12 h0) ⟨rfl, rfl⟩ ⟨by dsimp only [rmL]; omega, by dsimp only [rmL]; omega⟩ rfl rfl hl.1 (Nat.le_of_ble_eq_true rfl) dX6_ahead_2 ⟨Nat.zero_le _, Nat.zero_le _⟩ (fun H locs hR => ?_)
  refine lv_astore_nN (lv' := [(3, .null), (0, .ref (adr 0)), (1, .int x0), (2, .int (nI y))]) hx hb dX6_ahead_5 rfl hl (by decide) rfl (fun ls hl => ?_)
  refine lv_aload_n hx hb dX6_ahead_6 rfl (lv_at hl 1 rfl) ?_
  refine lv_iload_n hx hb dX6_ahead_7 rfl (lv_at hl 3 rfl) ?_
  refine gcV (As := [.int (nI y)]) F hK hR hml cv_X6_33 (o := 0) (rfl) rfl rfl (c_X6_findY l G A adr n S Y L y hn0 hn12 (by omega)) ⟨rfl, rfl⟩ ⟨by dsimp only [rmL]; omega, by dsimp only [rmL]; omega⟩ rfl rfl hl.1 (Nat.le_of_ble_eq_true rfl) dX6_ahead_8 ⟨Nat.zero_le _, Nat.zero_le _⟩ (fun H locs hR => ?_)
  refine lv_astore (lv' := [(4, .ref (adr (nk y 0))), (3, .null), (0, .ref (adr 0)), (1, .int x0), (2, .int (nI y))]) hx hb dX6_ahead_11 hl (by decide) rfl (fun ls hl => ?_)
  refine lv_aload_nN hx hb dX6_ahead_13 rfl (lv_at hl 1 rfl) ?_
  refine lv_ifnullN (tgt := 22) hx hb dX6_ahead_14 (by decide) ?_
  refine lv_bipush (v := (-2)) hx hb dX6_ahead_22 (by decide) ?_
  exact gr_i F hr hlk hK hR dX6_ahead_24 (rfl) (rfl)
set_option maxHeartbeats 4000000 in
set_option maxRecDepth 100000 in
/-- ahead: unknown -/
theorem c_X6_aheadYN (l : Launch) (G : gw_G) (A : Nat → Prop) (adr : Nat → Nat) (n : Nat) (S Y : Nat → Nat → Int32) (L : Int64) (x : Nat) (x1 : Int32) (hs : sI n S) (hxn : x < n) (h1 : sp_has (S 0 0) x1 = 0) : gm l yX6_ahead cX6_ahead 5 (some .int) (rmL 20) 0 0 A [.ref (adr 0), .int (nI x), .int x1] (gW G A adr (ccel G adr n S Y L)) (gW G A adr (ccel G adr n S Y L)) (some (.int (-2))) := by
  refine gm_of (own := RX6) (by decide) rfl (Nat.le_of_ble_eq_true rfl) ?_
  intro p e s m below meth c ls F hml hr hlk hnm hK hR hl
  have hx := F.1
  have hb := F.2.1
  replace hl : lv_has ls 5 [(0, .ref (adr 0)), (1, .int (nI x)), (2, .int x1)] := hl
  have hn12 := hs.1
  have hn0 := hs.2.1
  refine lv_aload_n hx hb dX6_ahead_0 rfl (lv_at hl 0 rfl) ?_
  refine lv_iload_n hx hb dX6_ahead_1 rfl (lv_at hl 1 rfl) ?_
  refine gcV (As := [.int (nI x)]) F hK hR hml cv_X6_33 (o := 0) (rfl) rfl rfl (c_X6_findY l G A adr n S Y L x hn0 hn12 (by omega)) ⟨rfl, rfl⟩ ⟨by dsimp only [rmL]; omega, by dsimp only [rmL]; omega⟩ rfl rfl hl.1 (Nat.le_of_ble_eq_true rfl) dX6_ahead_2 ⟨Nat.zero_le _, Nat.zero_le _⟩ (fun H locs hR => ?_)
  refine lv_astore_n (lv' := [(3, .ref (adr (nk x 0))), (0, .ref (adr 0)), (1, .int (nI x)), (2, .int x1)]) hx hb dX6_ahead_5 rfl hl (by decide) rfl (fun ls hl => ?_)
  refine lv_aload_n hx hb dX6_ahead_6 rfl (lv_at hl 1 rfl) ?_
  refine lv_iload_n hx hb dX6_ahead_7 rfl (lv_at hl 3 rfl) ?_
  refine gcV (As := [.int x1]) F hK hR hml cv_X6_33 (o := 0) (rfl) rfl rfl (c_X6_findN l G A adr n S Y L x1 hn0 hn12 h1) ⟨rfl, rfl⟩ ⟨by dsimp only [rmL]; omega, by dsimp only [rmL]; omega⟩ rfl rfl hl.1 (Nat.le_of_ble_eq_true rfl) dX6_ahead_8 ⟨Nat.zero_le _, Nat.zero_le _⟩ (fun H locs hR => ?_)
  refine lv_astoreN (lv' := [(4, .null), (3, .ref (adr (nk x 0))), (0, .ref (adr 0)), (1, .int (nI x)), (2, .int x1)]) hx hb dX6_ahead_11 hl (by decide) rfl (fun ls hl => ?_)
  refine lv_aload_n hx hb dX6_ahead_13 rfl (lv_at hl 1 rfl) ?_
  refine lv_ifnull hx hb dX6_ahead_14 ?_
  refine lv_aloadN hx hb dX6_ahead_17 (lv_at hl 0 rfl) ?_
  refine lv_ifnonnullN hx hb dX6_ahead_19 ?_
  refine lv_bipush (v := (-2)) hx hb dX6_ahead_22 (by decide) ?_
  exact gr_i F hr hlk hK hR dX6_ahead_24 (rfl) (rfl)
set_option maxHeartbeats 4000000 in
set_option maxRecDepth 100000 in
/-- ahead: the same -/
theorem c_X6_aheadE (l : Launch) (G : gw_G) (A : Nat → Prop) (adr : Nat → Nat) (n : Nat) (S Y : Nat → Nat → Int32) (L : Int64) (x : Nat) (hs : sI n S) (hxn : x < n) : gm l yX6_ahead cX6_ahead 5 (some .int) (rmL 20) 0 0 A [.ref (adr 0), .int (nI x), .int (nI x)] (gW G A adr (ccel G adr n S Y L)) (gW G A adr (ccel G adr n S Y L)) (some (.int (nI 0))) := by
  refine gm_of (own := RX6) (by decide) rfl (Nat.le_of_ble_eq_true rfl) ?_
  intro p e s m below meth c ls F hml hr hlk hnm hK hR hl
  have hx := F.1
  have hb := F.2.1
  replace hl : lv_has ls 5 [(0, .ref (adr 0)), (1, .int (nI x)), (2, .int (nI x))] := hl
  have hn12 := hs.1
  have hn0 := hs.2.1
  refine lv_aload_n hx hb dX6_ahead_0 rfl (lv_at hl 0 rfl) ?_
  refine lv_iload_n hx hb dX6_ahead_1 rfl (lv_at hl 1 rfl) ?_
  refine gcV (As := [.int (nI x)]) F hK hR hml cv_X6_33 (o := 0) (rfl) rfl rfl (c_X6_findY l G A adr n S Y L x hn0 hn12 (by omega)) ⟨rfl, rfl⟩ ⟨by dsimp only [rmL]; omega, by dsimp only [rmL]; omega⟩ rfl rfl hl.1 (Nat.le_of_ble_eq_true rfl) dX6_ahead_2 ⟨Nat.zero_le _, Nat.zero_le _⟩ (fun H locs hR => ?_)
  refine lv_astore_n (lv' := [(3, .ref (adr (nk x 0))), (0, .ref (adr 0)), (1, .int (nI x)), (2, .int (nI x))]) hx hb dX6_ahead_5 rfl hl (by decide) rfl (fun ls hl => ?_)
  refine lv_aload_n hx hb dX6_ahead_6 rfl (lv_at hl 1 rfl) ?_
  refine lv_iload_n hx hb dX6_ahead_7 rfl (lv_at hl 3 rfl) ?_
  refine gcV (As := [.int (nI x)]) F hK hR hml cv_X6_33 (o := 0) (rfl) rfl rfl (c_X6_findY l G A adr n S Y L x hn0 hn12 (by omega)) ⟨rfl, rfl⟩ ⟨by dsimp only [rmL]; omega, by dsimp only [rmL]; omega⟩ rfl rfl hl.1 (Nat.le_of_ble_eq_true rfl) dX6_ahead_8 ⟨Nat.zero_le _, Nat.zero_le _⟩ (fun H locs hR => ?_)
  refine lv_astore (lv' := [(4, .ref (adr (nk x 0))), (3, .ref (adr (nk x 0))), (0, .ref (adr 0)), (1, .int (nI x)), (2, .int (nI x))]) hx hb dX6_ahead_11 hl (by decide) rfl (fun ls hl => ?_)
  refine lv_aload_n hx hb dX6_ahead_13 rfl (lv_at hl 1 rfl) ?_
  refine lv_ifnull hx hb dX6_ahead_14 ?_
  refine lv_aload hx hb dX6_ahead_17 (lv_at hl 0 rfl) ?_
  refine lv_ifnonnull (tgt := 25) hx hb dX6_ahead_19 (by decide) ?_
  refine lv_aload_n hx hb dX6_ahead_25 rfl (lv_at hl 1 rfl) ?_
  refine lv_aload hx hb dX6_ahead_26 (lv_at hl 0 rfl) ?_
  refine lv_acmp_eq (rx := some (adr (nk x 0))) (ry := some (adr (nk x 0))) (tgt := 52) hx hb dX6_ahead_28 (by decide) (fun c_28 => ?_) (fun c_28 => ?_)
  · refine lv_iconst (v := nI 0) hx hb dX6_ahead_52 (by decide) ?_
    exact gr_i F hr hlk hK hR dX6_ahead_53 (rfl) (rfl)
  · exact absurd rfl c_28
set_option maxHeartbeats 4000000 in
set_option maxRecDepth 100000 in
/-- ahead -/
theorem c_X6_aheadK (l : Launch) (G : gw_G) (A : Nat → Prop) (adr : Nat → Nat) (n : Nat) (S Y : Nat → Nat → Int32) (L : Int64) (x y : Nat) (hs : sI n S) (hxn : x < n) (hyn : y < n) (hxy : x ≠ y) : gm l yX6_ahead cX6_ahead 5 (some .int) (rmL 20) 0 0 A [.ref (adr 0), .int (nI x), .int (nI y)] (gW G A adr (ccel G adr n S Y L)) (gW G A adr (ccel G adr n S ((rSt S x (Y, L)).1) ((rSt S x (Y, L)).2))) (some (.int (if (rSt S x (Y, L)).1 2 0 &&& b1 y = 0 then nI 0 else nI 1))) := by
  refine gm_of (own := RX6) (by decide) rfl (Nat.le_of_ble_eq_true rfl) ?_
  intro p e s m below meth c ls F hml hr hlk hnm hK hR hl
  have hx := F.1
  have hb := F.2.1
  replace hl : lv_has ls 5 [(0, .ref (adr 0)), (1, .int (nI x)), (2, .int (nI y))] := hl
  have hn12 := hs.1
  have hn0 := hs.2.1
  refine lv_aload_n hx hb dX6_ahead_0 rfl (lv_at hl 0 rfl) ?_
  refine lv_iload_n hx hb dX6_ahead_1 rfl (lv_at hl 1 rfl) ?_
  refine gcV (As := [.int (nI x)]) F hK hR hml cv_X6_33 (o := 0) (rfl) rfl rfl (c_X6_findY l G A adr n S Y L x hn0 hn12 (by omega)) ⟨rfl, rfl⟩ ⟨by dsimp only [rmL]; omega, by dsimp only [rmL]; omega⟩ rfl rfl hl.1 (Nat.le_of_ble_eq_true rfl) dX6_ahead_2 ⟨Nat.zero_le _, Nat.zero_le _⟩ (fun H locs hR => ?_)
  refine lv_astore_n (lv' := [(3, .ref (adr (nk x 0))), (0, .ref (adr 0)), (1, .int (nI x)), (2, .int (nI y))]) hx hb dX6_ahead_5 rfl hl (by decide) rfl (fun ls hl => ?_)
  refine lv_aload_n hx hb dX6_ahead_6 rfl (lv_at hl 1 rfl) ?_
  refine lv_iload_n hx hb dX6_ahead_7 rfl (lv_at hl 3 rfl) ?_
  refine gcV (As := [.int (nI y)]) F hK hR hml cv_X6_33 (o := 0) (rfl) rfl rfl (c_X6_findY l G A adr n S Y L y hn0 hn12 (by omega)) ⟨rfl, rfl⟩ ⟨by dsimp only [rmL]; omega, by dsimp only [rmL]; omega⟩ rfl rfl hl.1 (Nat.le_of_ble_eq_true rfl) dX6_ahead_8 ⟨Nat.zero_le _, Nat.zero_le _⟩ (fun H locs hR => ?_)
  refine lv_astore (lv' := [(4, .ref (adr (nk y 0))), (3, .ref (adr (nk x 0))), (0, .ref (adr 0)), (1, .int (nI x)), (2, .int (nI y))]) hx hb dX6_ahead_11 hl (by decide) rfl (fun ls hl => ?_)
  refine lv_aload_n hx hb dX6_ahead_13 rfl (lv_at hl 1 rfl) ?_
  refine lv_ifnull hx hb dX6_ahead_14 ?_
  refine lv_aload hx hb dX6_ahead_17 (lv_at hl 0 rfl) ?_
  refine lv_ifnonnull (tgt := 25) hx hb dX6_ahead_19 (by decide) ?_
  refine lv_aload_n hx hb dX6_ahead_25 rfl (lv_at hl 1 rfl) ?_
  refine lv_aload hx hb dX6_ahead_26 (lv_at hl 0 rfl) ?_
  refine lv_acmp_eq (rx := some (adr (nk x 0))) (ry := some (adr (nk y 0))) (tgt := 52) hx hb dX6_ahead_28 (by decide) (fun c_28 => ?_) (fun c_28 => ?_)
  · exact absurd (acmp_k hR hxn hyn c_28) hxy
  · refine lv_aload_n hx hb dX6_ahead_31 rfl (lv_at hl 2 rfl) ?_
    refine og_3 F hK hR fl_X6_29 dX6_ahead_32 ?_
    refine lv_aload_n hx hb dX6_ahead_35 rfl (lv_at hl 1 rfl) ?_
    refine gcVi (As := [.ref (adr (nk x 0))]) F hK hR hml cv_X6_149 (o := 6) (rfl) rfl rfl (c_X5_ofStart l G A adr n S Y L x hs hxn) ⟨rfl, rfl⟩ ⟨by dsimp only [rmL]; omega, by dsimp only [rmL]; omega⟩ rfl rfl hl.1 (Nat.le_of_ble_eq_true rfl) dX6_ahead_36 ⟨Nat.zero_le _, Nat.zero_le _⟩ (fun H locs hR => ?_)
    refine lv_aload hx hb dX6_ahead_39 (lv_at hl 0 rfl) ?_
    refine gcVi (As := []) F hK hR hml cv_X6_152 (o := nk y 0) (ccel_k (by omega) (by decide)) rfl rfl (c_X2_bit l G A adr n S ((rSt S x (Y, L)).1) ((rSt S x (Y, L)).2) y (by omega)) ⟨rfl, rfl⟩ ⟨by dsimp only [rmL]; omega, by dsimp only [rmL]; omega⟩ rfl rfl hl.1 (Nat.le_of_ble_eq_true rfl) dX6_ahead_41 ⟨Nat.zero_le _, Nat.zero_le _⟩ (fun H locs hR => ?_)
    refine lv_iand hx hb dX6_ahead_44 ?_
    refine lv_if_eq (tgt := 52) hx hb dX6_ahead_45 (by decide) (fun c_45 => ?_) (fun c_45 => ?_)
    · refine lv_iconst (v := nI 0) hx hb dX6_ahead_52 (by decide) ?_
      exact gr_i F hr hlk hK hR dX6_ahead_53 (by rw [if_pos c_45]) (rfl)
    · refine lv_iconst (v := nI 1) hx hb dX6_ahead_48 (by decide) ?_
      refine lv_goto (tgt := 53) hx hb dX6_ahead_49 (by decide) ?_
      exact gr_i F hr hlk hK hR dX6_ahead_53 (by rw [if_neg c_45]) (rfl)
