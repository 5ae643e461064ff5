/-! THE CLASS, 17: append -/
theorem ci_X4_28 : gw_ci RX4 28 yX0_init cX0_init 7 6 := ⟨ml_X4_28, im_X0_init, in_X0, co_X0_init, by decide +kernel⟩
set_option maxHeartbeats 4000000 in
set_option maxRecDepth 100000 in
/-- Method.append(..), where there is room -/
theorem c_X4_append (l : Launch) (G : gw_G) (A : Nat → Prop) (adr : Nat → Nat) (n : Nat) (S Y : Nat → Nat → Int32) (L : Int64) (x q ac z so : Nat) (x3 x4 x5 : Int32) (hs : sI n S) (hxn : x < n) (hq : q < 4) (hac : S 10 (4 * x + q) = nI ac) (h10 : ac < 10) (hso12 : so ≤ 12) (hzn : z < n) (hz : oth ((sp_act2 S (4 * x + q) ac (nI so) x3 x4 x5) 11) x (40 * (4 * x + q) + 4 * ac) = z) (h11 : so = 11 → ∃ t, t ≤ 9 ∧ x3 = nI t) : gm l yX4_append cX4_append 7 (some .int) (rmA 3 1 6) 1 6 A [.ref (adr (nk x (6 + q))), .int (nI so), .ref (adr (nk z 0)), .int x3, .int x4, .int x5] (gWa G A adr (ccel G adr n S Y L)) (fun U => ∃ adr2 : Nat → Nat, (∀ k, k ≠ (nk x (14 + 10 * q + ac)) → adr2 k = adr k) ∧ gW G A adr2 (ccel G adr2 n (sp_act2 S (4 * x + q) ac (nI so) x3 x4 x5) Y L) U) (some (.int (nI (ac + 1)))) := by
  refine gm_ofA (own := RX4) (by decide) rfl (Nat.le_of_ble_eq_true rfl) ?_
  intro p e s m below meth c ls F hml hr hlk hnm hK hA hR hl
  have hx := F.1
  have hb := F.2.1
  have hn12 := hs.1
  replace hl : lv_has ls 7 [(0, .ref (adr (nk x (6 + q)))), (1, .int (nI so)), (2, .ref (adr (nk z 0))), (3, .int x3), (4, .int x4), (5, .int x5)] := hl
  refine lv_aload_n hx hb dX4_append_0 rfl (lv_at hl 0 rfl) ?_
  refine mg_2 F hK hR (by omega) (by omega) fl_X4_17 dX4_append_1 ?_
  refine lv_eq (hac) ?_
  refine lv_bipush (v := nI 10) hx hb dX4_append_4 (by decide) ?_
  refine nv_icmp_lt (by omega) (by omega) hx hb dX4_append_6 (tgt := 12) (by decide) (fun c_6 => ?_) (fun c_6 => absurd c_6 (by omega))
  refine lv_iload_n hx hb dX4_append_12 rfl (lv_at hl 1 rfl) ?_
  refine lv_bipush (v := nI 11) hx hb dX4_append_13 (by decide) ?_
  refine nv_icmp_ne (by omega) (by omega) hx hb dX4_append_15 (tgt := 26) (by decide) (fun c_15 => ?_) (fun c_15 => ?_)
  · refine lv_iconst (v := (-1)) hx hb dX4_append_26 (by decide) ?_
    refine lv_istore (lv' := [(6, .int (-1)), (0, .ref (adr (nk x (6 + q)))), (1, .int (nI so)), (2, .ref (adr (nk z 0))), (3, .int x3), (4, .int x4), (5, .int x5)]) hx hb dX4_append_27 hl (by decide) rfl (fun ls hl => ?_)
    have hlg : lgI ((sp_act2 S (4 * x + q) ac (nI so) x3 x4 x5) 11) (4 * x + q) ac = -1 := by rw [lgI, act2_0, if_neg (fun h => c_15 ((nI_eq (by omega) (by omega)).mp h))]
    refine lv_aload_n hx hb dX4_append_29 rfl (lv_at hl 1 rfl) ?_
    refine mg_1 F hK hR (by omega) (by omega) fl_X4_13 dX4_append_30 ?_
    refine lv_aload_n hx hb dX4_append_33 rfl (lv_at hl 1 rfl) ?_
    refine mg_2 F hK hR (by omega) (by omega) fl_X4_17 dX4_append_34 ?_
    refine lv_eq (hac) ?_
    have hNone : ccel G adr n S Y L (nk x (14 + 10 * q + ac)) = none := by
      rw [ccel_k hxn (by omega)]
      unfold kcel
      rw [if_neg (by omega), if_neg (by omega), if_neg (by omega), if_neg (by omega), if_neg (by omega), if_neg (by omega), if_neg (by omega), if_neg (by omega), show (14 + 10 * q + ac - 14) % 10 = ac by omega, show (14 + 10 * q + ac - 14) / 10 = q by omega, hac, nI_clamp (by omega), if_neg (by omega)]
    have e1 : bC (nk x (14 + 10 * q + ac)) 1 [] (ccel G adr n S Y L) = ccel G adr n S Y L := by
      refine bl_ext (fun j hj => ?_) (fun k hk => rfl)
      match j, hj with
      | 0, _ => exact hNone.symm
    replace hR := gw_B.to2 hR (bN_0 (nk x (14 + 10 * q + ac)) 1 adr).symm e1.symm
    refine gb_new F hK hA hR 0 0 (by decide) rfl rfl inX0 tyX0 tyX0_ok kl_X4_11 ia_X0 in_X0 (fs := [.int 0, .null, .int 0, .int 0, .int 0, .int 0]) (by decide +kernel) (Nat.le_of_ble_eq_true rfl) (Nat.le_of_ble_eq_true rfl) (L' := [(0, .inr (0, [.int 0, .null, .int 0, .int 0, .int 0, .int 0]))]) rfl dX4_append_37 (fun r H hR => ?_)
    refine lv_dup hx hb dX4_append_40 rfl ?_
    refine lv_iload_n hx hb dX4_append_41 rfl (lv_at hl 2 rfl) ?_
    refine lv_aload_n hx hb dX4_append_42 rfl (lv_at hl 3 rfl) ?_
    refine lv_iload_n hx hb dX4_append_43 rfl (lv_at hl 4 rfl) ?_
    refine lv_iload hx hb dX4_append_44 (lv_at hl 5 rfl) ?_
    refine lv_iload hx hb dX4_append_46 (lv_at hl 6 rfl) ?_
    refine lv_iload hx hb dX4_append_48 (lv_at hl 0 rfl) ?_
    refine gcI (As := [.int (nI so), .ref (adr (nk z 0)), .int x3, .int x4, .int x5, .int (-1)]) F hK hA hR hml ci_X4_28 (c_X0_init l G A adr _ (nk x (14 + 10 * q + ac)) r (adr (nk z 0)) (nI so) x3 x4 x5 (-1)) ⟨rfl, rfl⟩ ⟨Nat.le_of_ble_eq_true rfl, Nat.le_of_ble_eq_true rfl⟩ rfl rfl hl.1 (Nat.le_of_ble_eq_true rfl) dX4_append_50 ⟨Nat.le_of_ble_eq_true rfl, Nat.le_of_ble_eq_true rfl⟩ (fun U H locs hU hP hS => ?_)
    obtain ⟨adr2, hadr, hr0, hR⟩ : ∃ adr2 : Nat → Nat, (∀ k, k ≠ (nk x (14 + 10 * q + ac)) → adr2 k = adr k) ∧ adr2 (nk x (14 + 10 * q + ac)) = r ∧ gw_B G A adr2 (bC (nk x (14 + 10 * q + ac)) 1 [(0, .inr (0, [.int (nI so), .ref (adr2 (nk z 0)), .int x3, .int x4, .int x5, .int (-1)]))] (ccel G adr2 n S Y L)) s.heap H locs := by
      refine ⟨bN (nk x (14 + 10 * q + ac)) 1 [(0, r)] adr, fun k hk => bl_out (by omega), bl_at (j := 0) (by decide), ?_⟩
      have ha : ∀ k, k ≠ (nk x (14 + 10 * q + ac)) → bN (nk x (14 + 10 * q + ac)) 1 [(0, r)] adr k = adr k := fun k hk => bl_out (by omega)
      have hrm : rmR (bN (nk x (14 + 10 * q + ac)) 1 [(0, r)] adr) Y = rmR adr Y := by
        funext i
        unfold rmR
        rw [ha _ (by show 8 + 60 * ((Y 4 i).toNatClampNeg / 4) + (6 + (Y 4 i).toNatClampNeg % 4) ≠ 8 + 60 * x + (14 + 10 * q + ac); omega)]
      have h := gW_back hP hU hS
      rw [ha (nk z 0) (by show 8 + 60 * z + 0 ≠ 8 + 60 * x + (14 + 10 * q + ac); omega), ccel_adr hs (fun k hk => ha k (by show k ≠ 8 + 60 * x + (14 + 10 * q + ac); omega)) (fun x2 j hx2 hj => ha _ (by show 8 + 60 * x2 + j ≠ 8 + 60 * x + (14 + 10 * q + ac); omega)) (fun x2 q2 i hx2 hq2 hi => ha _ (by
        show 8 + 60 * x2 + (14 + 10 * q2 + i) ≠ 8 + 60 * x + (14 + 10 * q + ac)
        have h9 := (sI_ac hs (mm := 4 * x2 + q2) (by omega)).1
        intro e
        have ex : x2 = x := by omega
        have eq : q2 = q := by omega
        subst ex; subst eq
        rw [hac, nI_clamp (by omega)] at hi
        omega)) hrm]
      exact h
    clear hP hU hS
    have t1 : adr (nk x (6 + q)) = adr2 (nk x (6 + q)) := (hadr _ (by show 8 + 60 * x + (6 + q) ≠ 8 + 60 * x + (14 + 10 * q + ac); omega)).symm
    have t2 : adr (nk x (10 + q)) = adr2 (nk x (10 + q)) := (hadr _ (by show 8 + 60 * x + (10 + q) ≠ 8 + 60 * x + (14 + 10 * q + ac); omega)).symm
    rw [t1] at hl
    rw [← hr0, t2]
    refine gw_aast F hK hR (nk x (10 + q)) 2 (r := (RX0, TX0, 6)) rfl ((bl_out (Or.inl (by show 8 + 60 * x + (10 + q) < 8 + 60 * x + (14 + 10 * q + ac); omega))).trans ((ccel_k hxn (by omega)).trans (kc_a hq))) (nk x (14 + 10 * q + ac)) 0 (bl_at (j := 0) (by decide)) rfl (vp_in_nI (by omega) (by decide)) dX4_append_53 (fun H locs hR => ?_)
    rw [nI_clamp (by omega), hr0] at hR
    replace hl : lv_has ls 7 [(0, .ref (adr2 (nk x (6 + q))))] := lv_sub hl [1] rfl
    have hme : ∀ e, va_up (bC (nk x (14 + 10 * q + ac)) 1 [(0, .inr (0, [.int (nI so), .ref (adr2 (nk z 0)), .int x3, .int x4, .int x5, .int (-1)]))] (ccel G adr2 n S Y L)) (nk x (10 + q)) e (nk x (6 + q)) = some (.inr (4, mfs adr2 S x q)) := fun e => by
      show (if nk x (6 + q) = nk x (10 + q) then _ else _) = _
      rw [if_neg (by show 8 + 60 * x + (6 + q) ≠ 8 + 60 * x + (10 + q); omega)]
      exact (bl_out (Or.inl (by show 8 + 60 * x + (6 + q) < 8 + 60 * x + (14 + 10 * q + ac); omega))).trans ((ccel_k hxn (by omega)).trans (kc_m hq))
    refine lv_aload_n hx hb dX4_append_54 rfl (lv_at hl 0 rfl) ?_
    refine lv_dup hx hb dX4_append_55 rfl ?_
    refine gw_get F hK hR.1 (nk x (6 + q)) (hme _) rfl inX4 2 (by decide) fl_X4_17 rfl dX4_append_56 ?_
    refine lv_eq hac ?_
    refine lv_iconst (v := nI 1) hx hb dX4_append_59 (by decide) ?_
    refine nv_iadd hx hb dX4_append_60 ?_
    refine gw_put F hK hR (nk x (6 + q)) (hme _) rfl inX4 tyX4 tyX4_ok nmX4 2 (by decide) fl_X4_17 rfl (ty := .int) rfl rfl rfl (Nat.le_of_ble_eq_true rfl) dX4_append_61 (fun H locs hR => ?_)
    replace hR : cB G A adr2 n (sp_act2 S (4 * x + q) ac (nI so) x3 x4 x5) Y L s.heap H locs := gw_B.to hR (ccel_act hxn hq hac h10 hz hlg hr0)
    refine lv_aload_n hx hb dX4_append_64 rfl (lv_at hl 0 rfl) ?_
    refine mg_2 F hK hR hxn hq fl_X4_17 dX4_append_65 ?_
    refine lv_eq act2_10 ?_
    exact gr_iP F hr hlk hK hR dX4_append_68 rfl (fun t ht => ⟨adr2, hadr, ht⟩)
  · obtain rfl : so = 11 := c_15
    obtain ⟨t, ht9, rfl⟩ := h11 rfl
    refine lv_aload_n hx hb dX4_append_18 rfl (lv_at hl 0 rfl) ?_
    refine lv_iload_n hx hb dX4_append_19 rfl (lv_at hl 3 rfl) ?_
    refine gcVi (As := [.int (nI t)]) F hK hR hml cv_X4_24 (o := nk x (6 + q)) ((ccel_k (by omega) (by omega)).trans (kc_m (by omega))) rfl rfl (c_X4_lastGuarded l G A adr n S Y L x q ac t hxn hn12 hq hac (by omega) ht9 (fun j hj h => act_t (sI_act hs hxn hq (i := j) (by rw [hac, nI_clamp (by omega)]; exact hj)) h)) ⟨rfl, rfl⟩ ⟨Nat.le_of_ble_eq_true rfl, Nat.le_of_ble_eq_true rfl⟩ rfl rfl hl.1 (Nat.le_of_ble_eq_true rfl) dX4_append_20 ⟨Nat.zero_le _, Nat.zero_le _⟩ (fun H locs hR => ?_)
    refine lv_goto (tgt := 27) hx hb dX4_append_23 (by decide) ?_
    refine lv_istore (lv' := [(6, .int (nI (lgX (S 11) (4 * x + q) ac t))), (0, .ref (adr (nk x (6 + q)))), (1, .int (nI 11)), (2, .ref (adr (nk z 0))), (3, .int (nI t)), (4, .int x4), (5, .int x5)]) hx hb dX4_append_27 hl (by decide) rfl (fun ls hl => ?_)
    have hlg : lgI (sp_act2 S (4 * x + q) ac (nI 11) (nI t) x4 x5 11) (4 * x + q) ac = nI (lgX (S 11) (4 * x + q) ac t) := by rw [act2_lgN, nI_clamp (by omega)]
    refine lv_aload_n hx hb dX4_append_29 rfl (lv_at hl 1 rfl) ?_
    refine mg_1 F hK hR (by omega) (by omega) fl_X4_13 dX4_append_30 ?_
    refine lv_aload_n hx hb dX4_append_33 rfl (lv_at hl 1 rfl) ?_
    refine mg_2 F hK hR (by omega) (by omega) fl_X4_17 dX4_append_34 ?_
    refine lv_eq (hac) ?_
    have hNone : ccel G adr n S Y L (nk x (14 + 10 * q + ac)) = none := by
      rw [ccel_k hxn (by omega)]
      unfold kcel
      rw [if_neg (by omega), if_neg (by omega), if_neg (by omega), if_neg (by omega), if_neg (by omega), if_neg (by omega), if_neg (by omega), if_neg (by omega), show (14 + 10 * q + ac - 14) % 10 = ac by omega, show (14 + 10 * q + ac - 14) / 10 = q by omega, hac, nI_clamp (by omega), if_neg (by omega)]
    have e1 : bC (nk x (14 + 10 * q + ac)) 1 [] (ccel G adr n S Y L) = ccel G adr n S Y L := by
      refine bl_ext (fun j hj => ?_) (fun k hk => rfl)
      match j, hj with
      | 0, _ => exact hNone.symm
    replace hR := gw_B.to2 hR (bN_0 (nk x (14 + 10 * q + ac)) 1 adr).symm e1.symm
    refine gb_new F hK hA hR 0 0 (by decide) rfl rfl inX0 tyX0 tyX0_ok kl_X4_11 ia_X0 in_X0 (fs := [.int 0, .null, .int 0, .int 0, .int 0, .int 0]) (by decide +kernel) (Nat.le_of_ble_eq_true rfl) (Nat.le_of_ble_eq_true rfl) (L' := [(0, .inr (0, [.int 0, .null, .int 0, .int 0, .int 0, .int 0]))]) rfl dX4_append_37 (fun r H hR => ?_)
    refine lv_dup hx hb dX4_append_40 rfl ?_
    refine lv_iload_n hx hb dX4_append_41 rfl (lv_at hl 2 rfl) ?_
    refine lv_aload_n hx hb dX4_append_42 rfl (lv_at hl 3 rfl) ?_
    refine lv_iload_n hx hb dX4_append_43 rfl (lv_at hl 4 rfl) ?_
    refine lv_iload hx hb dX4_append_44 (lv_at hl 5 rfl) ?_
    refine lv_iload hx hb dX4_append_46 (lv_at hl 6 rfl) ?_
    refine lv_iload hx hb dX4_append_48 (lv_at hl 0 rfl) ?_
    refine gcI (As := [.int (nI 11), .ref (adr (nk z 0)), .int (nI t), .int x4, .int x5, .int (nI (lgX (S 11) (4 * x + q) ac t))]) F hK hA hR hml ci_X4_28 (c_X0_init l G A adr _ (nk x (14 + 10 * q + ac)) r (adr (nk z 0)) (nI 11) (nI t) x4 x5 (nI (lgX (S 11) (4 * x + q) ac t))) ⟨rfl, rfl⟩ ⟨Nat.le_of_ble_eq_true rfl, Nat.le_of_ble_eq_true rfl⟩ rfl rfl hl.1 (Nat.le_of_ble_eq_true rfl) dX4_append_50 ⟨Nat.le_of_ble_eq_true rfl, Nat.le_of_ble_eq_true rfl⟩ (fun U H locs hU hP hS => ?_)
    obtain ⟨adr2, hadr, hr0, hR⟩ : ∃ adr2 : Nat → Nat, (∀ k, k ≠ (nk x (14 + 10 * q + ac)) → adr2 k = adr k) ∧ adr2 (nk x (14 + 10 * q + ac)) = r ∧ gw_B G A adr2 (bC (nk x (14 + 10 * q + ac)) 1 [(0, .inr (0, [.int (nI 11), .ref (adr2 (nk z 0)), .int (nI t), .int x4, .int x5, .int (nI (lgX (S 11) (4 * x + q) ac t))]))] (ccel G adr2 n S Y L)) s.heap H locs := by
      refine ⟨bN (nk x (14 + 10 * q + ac)) 1 [(0, r)] adr, fun k hk => bl_out (by omega), bl_at (j := 0) (by decide), ?_⟩
      have ha : ∀ k, k ≠ (nk x (14 + 10 * q + ac)) → bN (nk x (14 + 10 * q + ac)) 1 [(0, r)] adr k = adr k := fun k hk => bl_out (by omega)
      have hrm : rmR (bN (nk x (14 + 10 * q + ac)) 1 [(0, r)] adr) Y = rmR adr Y := by
        funext i
        unfold rmR
        rw [ha _ (by show 8 + 60 * ((Y 4 i).toNatClampNeg / 4) + (6 + (Y 4 i).toNatClampNeg % 4) ≠ 8 + 60 * x + (14 + 10 * q + ac); omega)]
      have h := gW_back hP hU hS
      rw [ha (nk z 0) (by show 8 + 60 * z + 0 ≠ 8 + 60 * x + (14 + 10 * q + ac); omega), ccel_adr hs (fun k hk => ha k (by show k ≠ 8 + 60 * x + (14 + 10 * q + ac); omega)) (fun x2 j hx2 hj => ha _ (by show 8 + 60 * x2 + j ≠ 8 + 60 * x + (14 + 10 * q + ac); omega)) (fun x2 q2 i hx2 hq2 hi => ha _ (by
        show 8 + 60 * x2 + (14 + 10 * q2 + i) ≠ 8 + 60 * x + (14 + 10 * q + ac)
        have h9 := (sI_ac hs (mm := 4 * x2 + q2) (by omega)).1
        intro e
        have ex : x2 = x := by omega
        have eq : q2 = q := by omega
        subst ex; subst eq
        rw [hac, nI_clamp (by omega)] at hi
        omega)) hrm]
      exact h
    clear hP hU hS
    have t1 : adr (nk x (6 + q)) = adr2 (nk x (6 + q)) := (hadr _ (by show 8 + 60 * x + (6 + q) ≠ 8 + 60 * x + (14 + 10 * q + ac); omega)).symm
    have t2 : adr (nk x (10 + q)) = adr2 (nk x (10 + q)) := (hadr _ (by show 8 + 60 * x + (10 + q) ≠ 8 + 60 * x + (14 + 10 * q + ac); omega)).symm
    rw [t1] at hl
    rw [← hr0, t2]
    refine gw_aast F hK hR (nk x (10 + q)) 2 (r := (RX0, TX0, 6)) rfl ((bl_out (Or.inl (by show 8 + 60 * x + (10 + q) < 8 + 60 * x + (14 + 10 * q + ac); omega))).trans ((ccel_k hxn (by omega)).trans (kc_a hq))) (nk x (14 + 10 * q + ac)) 0 (bl_at (j := 0) (by decide)) rfl (vp_in_nI (by omega) (by decide)) dX4_append_53 (fun H locs hR => ?_)
    rw [nI_clamp (by omega), hr0] at hR
    replace hl : lv_has ls 7 [(0, .ref (adr2 (nk x (6 + q))))] := lv_sub hl [1] rfl
    have hme : ∀ e, va_up (bC (nk x (14 + 10 * q + ac)) 1 [(0, .inr (0, [.int (nI 11), .ref (adr2 (nk z 0)), .int (nI t), .int x4, .int x5, .int (nI (lgX (S 11) (4 * x + q) ac t))]))] (ccel G adr2 n S Y L)) (nk x (10 + q)) e (nk x (6 + q)) = some (.inr (4, mfs adr2 S x q)) := fun e => by
      show (if nk x (6 + q) = nk x (10 + q) then _ else _) = _
      rw [if_neg (by show 8 + 60 * x + (6 + q) ≠ 8 + 60 * x + (10 + q); omega)]
      exact (bl_out (Or.inl (by show 8 + 60 * x + (6 + q) < 8 + 60 * x + (14 + 10 * q + ac); omega))).trans ((ccel_k hxn (by omega)).trans (kc_m hq))
    refine lv_aload_n hx hb dX4_append_54 rfl (lv_at hl 0 rfl) ?_
    refine lv_dup hx hb dX4_append_55 rfl ?_
    refine gw_get F hK hR.1 (nk x (6 + q)) (hme _) rfl inX4 2 (by decide) fl_X4_17 rfl dX4_append_56 ?_
    refine lv_eq hac ?_
    refine lv_iconst (v := nI 1) hx hb dX4_append_59 (by decide) ?_
    refine nv_iadd hx hb dX4_append_60 ?_
    refine gw_put F hK hR (nk x (6 + q)) (hme _) rfl inX4 tyX4 tyX4_ok nmX4 2 (by decide) fl_X4_17 rfl (ty := .int) rfl rfl rfl (Nat.le_of_ble_eq_true rfl) dX4_append_61 (fun H locs hR => ?_)
    replace hR : cB G A adr2 n (sp_act2 S (4 * x + q) ac (nI 11) (nI t) x4 x5) Y L s.heap H locs := gw_B.to hR (ccel_act hxn hq hac h10 hz hlg hr0)
    refine lv_aload_n hx hb dX4_append_64 rfl (lv_at hl 0 rfl) ?_
    refine mg_2 F hK hR hxn hq fl_X4_17 dX4_append_65 ?_
    refine lv_eq act2_10 ?_
    exact gr_iP F hr hlk hK hR dX4_append_68 rfl (fun t ht => ⟨adr2, hadr, ht⟩)
set_option maxHeartbeats 4000000 in
set_option maxRecDepth 100000 in
/-- Method.append(..), where there is none -/
theorem c_X4_appendF (l : Launch) (G : gw_G) (A : Nat → Prop) (adr : Nat → Nat) (n : Nat) (S Y : Nat → Nat → Int32) (L : Int64) (x q z : Nat) (x1 x3 x4 x5 : Int32) (hxn : x < n) (hq : q < 4) (hac : S 10 (4 * x + q) = nI 10) : gm l yX4_append cX4_append 7 (some .int) (rmL 3) 0 0 A [.ref (adr (nk x (6 + q))), .int x1, .ref (adr (nk z 0)), .int x3, .int x4, .int x5] (gW G A adr (ccel G adr n S Y L)) (gW G A adr (ccel G adr n S Y L)) (some (.int (-5))) := by
  refine gm_of (own := RX4) (by decide) rfl (Nat.le_of_ble_eq_true rfl) ?_
  intro p e s m below meth c ls F hml hr hlk hnm hK hR hl
  have hx := F.1
  have hb := F.2.1
  replace hl : lv_has ls 7 [(0, .ref (adr (nk x (6 + q)))), (1, .int x1), (2, .ref (adr (nk z 0))), (3, .int x3), (4, .int x4), (5, .int x5)] := hl
  refine lv_aload_n hx hb dX4_append_0 rfl (lv_at hl 0 rfl) ?_
  refine mg_2 F hK hR (by omega) (by omega) fl_X4_17 dX4_append_1 ?_
  refine lv_eq (hac) ?_
  refine lv_bipush (v := nI 10) hx hb dX4_append_4 (by decide) ?_
  refine nv_icmp_lt (by omega) (by omega) hx hb dX4_append_6 (tgt := 12) (by decide) (fun c_6 => absurd c_6 (by omega)) (fun c_6 => ?_)
  refine lv_bipush (v := (-5)) hx hb dX4_append_9 (by decide) ?_
  exact gr_i F hr hlk hK hR dX4_append_11 (rfl) (rfl)
