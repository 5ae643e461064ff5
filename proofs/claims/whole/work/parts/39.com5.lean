/-! THE CLASS, 5: start, lookThrough -/
theorem st_1 {E : cEV} {x d : Nat} {r : Int32 × cST} (h : ¬ r.1 = -1) : stL E x d r = r := by rw [stL, if_pos h]
theorem st_2 {E : cEV} {x d : Nat} {r : Int32 × cST} (h : r.1 = -1) (h1 : r.2.1 1 x = 0) : stL E x d r = E 2 x 0 12 d r.2 := by rw [stL, if_neg (not_not_intro h), if_pos h1]
theorem st_3 {E : cEV} {x d : Nat} {r : Int32 × cST} (h : r.1 = -1) (h1 : ¬ r.2.1 1 x = 0) : stL E x d r = r := by rw [stL, if_neg (not_not_intro h), if_neg h1]
theorem st_4 {E : cEV} {x d : Nat} {r : Int32 × cST} (h : ¬ r.1 = -1) : stW E x d r = r := by rw [stW, if_pos h]
theorem st_5 {E : cEV} {x d : Nat} {r : Int32 × cST} (h : r.1 = -1) (h1 : d < 8) : stW E x d r = E 3 x 0 0 d r.2 := by rw [stW, if_neg (not_not_intro h), if_pos h1]
theorem st_6 {E : cEV} {x d : Nat} {r : Int32 × cST} (h : r.1 = -1) (h1 : ¬ d < 8) : stW E x d r = (nI 9, (sp_ar r.2.1 (nI 9), r.2.2)) := by rw [stW, if_neg (not_not_intro h), if_neg h1]
set_option maxHeartbeats 4000000 in
set_option maxRecDepth 100000 in
theorem st_start {l : Launch} {G : gw_G} {A : Nat → Prop} {adr : Nat → Nat} {n : Nat} {L : Int64} {k : Nat} (hA : cmAll l G A adr n L k) : cmS l G A adr n L (k + 1) := by
  intro S Y x d hs hd hxn hd8 hm
  refine gm_of (own := RX3) (by decide) rfl (Nat.le_of_ble_eq_true rfl) ?_
  intro p e s m below meth c ls F hml hr hlk hnm hK hR hl
  have hx := F.1
  have hb := F.2.1
  obtain ⟨hev, he⟩ := hd.ev
  have hn12 := hs.1
  replace hl : lv_has ls 4 [(0, .ref (adr 2)), (1, .ref (adr (nk x 0))), (2, .int (nI d))] := hl
  refine lv_iconst (v := (-1)) hx hb dX3_start_0 (by decide) ?_
  refine lv_istore_n (lv' := [(3, .int (-1)), (0, .ref (adr 2)), (1, .ref (adr (nk x 0))), (2, .int (nI d))]) hx hb dX3_start_1 rfl hl (by decide) rfl (fun ls hl => ?_)
  by_cases hp : S 3 x = -1
  · have hP : stP (ev k) x d (S, Y) = (-1, (S, Y)) := by rw [stP, if_pos hp]
    refine lv_aload_n hx hb dX3_start_2 rfl (lv_at hl 2 rfl) ?_
    refine kg_3 F hK hR (by omega) fl_X3_58 dX3_start_3 ?_
    rw [par_no hp]
    refine lv_ifnullN (tgt := 19) hx hb dX3_start_6 (by decide) ?_
    refine lv_iload_n hx hb dX3_start_19 rfl (lv_at hl 0 rfl) ?_
    refine lv_iconst (v := (-1)) hx hb dX3_start_20 (by decide) ?_
    refine lv_icmp_ne (tgt := 40) hx hb dX3_start_21 (by decide) (fun c_21 => absurd c_21 (fun q => q rfl)) (fun c_21 => ?_)
    refine lv_aload_n hx hb dX3_start_24 rfl (lv_at hl 2 rfl) ?_
    refine kg_1 F hK hR (by omega) fl_X3_62 dX3_start_25 ?_
    refine lv_if_ne (tgt := 40) hx hb dX3_start_28 (by decide) (fun c_28 => ?_) (fun c_28 => ?_)
    · refine lv_iload_n hx hb dX3_start_40 rfl (lv_at hl 0 rfl) ?_
      refine lv_iconst (v := (-1)) hx hb dX3_start_41 (by decide) ?_
      refine lv_icmp_eq (tgt := 47) hx hb dX3_start_42 (by decide) (fun c_42 => ?_) (fun c_42 => absurd rfl c_42)
      refine lv_iload_n hx hb dX3_start_47 rfl (lv_at hl 3 rfl) ?_
      refine lv_bipush (v := nI 8) hx hb dX3_start_48 (by decide) ?_
      refine nv_icmp_ge (by omega) (by omega) hx hb dX3_start_50 (tgt := 63) (by decide) (fun c_50 => ?_) (fun c_50 => ?_)
      · have n_50 : ¬ (d < 8) := by omega
        refine lv_aload_n hx hb dX3_start_63 rfl (lv_at hl 1 rfl) ?_
        refine lv_bipush (v := nI 9) hx hb dX3_start_64 (by decide) ?_
        refine gcVi (As := [.int (nI 9)]) F hK hR hml cv_X3_41 (o := 2) (rfl) rfl rfl (c_X3_raise l G A adr n S Y L (nI 9) (by decide)) ⟨rfl, rfl⟩ ⟨by dsimp only [rmL]; omega, by dsimp only [rmL]; omega⟩ rfl rfl hl.1 (Nat.le_of_ble_eq_true rfl) dX3_start_66 ⟨Nat.zero_le _, Nat.zero_le _⟩ (fun H locs hR => ?_)
        exact gr_i F hr hlk hK hR dX3_start_69 (by rw [ev1, hP, st_3 rfl c_28, st_6 rfl n_50]) (by rw [ev1, hP, st_3 rfl c_28, st_6 rfl n_50])
      · have n_50 : ¬ (8 ≤ d) := by omega
        refine lv_aload_n hx hb dX3_start_53 rfl (lv_at hl 1 rfl) ?_
        refine lv_aload_n hx hb dX3_start_54 rfl (lv_at hl 2 rfl) ?_
        refine lv_iconst (v := nI 0) hx hb dX3_start_55 (by decide) ?_
        refine lv_iload_n hx hb dX3_start_56 rfl (lv_at hl 3 rfl) ?_
        refine gcVi (As := [.ref (adr (nk x 0)), .int (nI 0), .int (nI d)]) F hK hR hml cv_X3_25 (o := 2) (rfl) rfl rfl (hA.2.2.2.1 S Y x 0 d hs hd hxn (by omega) c_50 (by omega)) ⟨rfl, rfl⟩ ⟨by dsimp only [rmL]; omega, by dsimp only [rmL]; omega⟩ rfl rfl hl.1 (Nat.le_of_ble_eq_true rfl) dX3_start_57 ⟨Nat.zero_le _, Nat.zero_le _⟩ (fun H locs hR => ?_)
        refine lv_goto (tgt := 69) hx hb dX3_start_60 (by decide) ?_
        exact gr_i F hr hlk hK hR dX3_start_69 (by rw [ev1, hP, st_3 rfl c_28, st_5 rfl c_50]) (by rw [ev1, hP, st_3 rfl c_28, st_5 rfl c_50])
    · refine lv_aload_n hx hb dX3_start_31 rfl (lv_at hl 1 rfl) ?_
      refine lv_aload_n hx hb dX3_start_32 rfl (lv_at hl 2 rfl) ?_
      refine lv_iload_n hx hb dX3_start_33 rfl (lv_at hl 3 rfl) ?_
      refine lv_bipush (v := nI 12) hx hb dX3_start_34 (by decide) ?_
      refine gcVi (As := [.ref (adr (nk x 0)), .int (nI d), .int (nI 12)]) F hK hR hml cv_X3_66 (o := 2) (rfl) rfl rfl (hA.2.2.1 S Y x 12 d hs hd hxn hd8 (by omega) (by omega)) ⟨rfl, rfl⟩ ⟨by dsimp only [rmL]; omega, by dsimp only [rmL]; omega⟩ rfl rfl hl.1 (Nat.le_of_ble_eq_true rfl) dX3_start_36 ⟨Nat.zero_le _, Nat.zero_le _⟩ (fun H locs hR => ?_)
      have g_r2 := ev_ok n k 2 x 0 12 d (S, Y) hs hd hxn (by omega) (fun h => by omega)
      generalize hr_r2 : ev k 2 x 0 12 d (S, Y) = r2 at g_r2 hR ⊢
      obtain ⟨hev_r2, he_r2⟩ := g_r2.2.2.1.ev
      have hs2 := (hs).to g_r2.1
      have hc2 : cN r2.2.1 n ≤ cN S n := cN_le g_r2.2.1
      have hd2 := g_r2.2.2.1
      refine lv_istore_n (lv' := [(3, .int r2.1), (0, .ref (adr 2)), (1, .ref (adr (nk x 0))), (2, .int (nI d))]) hx hb dX3_start_39 rfl hl (by decide) rfl (fun ls hl => ?_)
      refine lv_iload_n hx hb dX3_start_40 rfl (lv_at hl 0 rfl) ?_
      refine lv_iconst (v := (-1)) hx hb dX3_start_41 (by decide) ?_
      refine lv_icmp_eq (tgt := 47) hx hb dX3_start_42 (by decide) (fun c_42 => ?_) (fun c_42 => ?_)
      · refine lv_iload_n hx hb dX3_start_47 rfl (lv_at hl 3 rfl) ?_
        refine lv_bipush (v := nI 8) hx hb dX3_start_48 (by decide) ?_
        refine nv_icmp_ge (by omega) (by omega) hx hb dX3_start_50 (tgt := 63) (by decide) (fun c_50 => ?_) (fun c_50 => ?_)
        · have n_50 : ¬ (d < 8) := by omega
          refine lv_aload_n hx hb dX3_start_63 rfl (lv_at hl 1 rfl) ?_
          refine lv_bipush (v := nI 9) hx hb dX3_start_64 (by decide) ?_
          refine gcVi (As := [.int (nI 9)]) F hK hR hml cv_X3_41 (o := 2) (rfl) rfl rfl (c_X3_raise l G A adr n r2.2.1 r2.2.2 L (nI 9) (by decide)) ⟨rfl, rfl⟩ ⟨by dsimp only [rmL]; omega, by dsimp only [rmL]; omega⟩ rfl rfl hl.1 (Nat.le_of_ble_eq_true rfl) dX3_start_66 ⟨Nat.zero_le _, Nat.zero_le _⟩ (fun H locs hR => ?_)
          exact gr_i F hr hlk hK hR dX3_start_69 (by rw [ev1, hP, st_2 rfl c_28, hr_r2, st_6 c_42 n_50]) (by rw [ev1, hP, st_2 rfl c_28, hr_r2, st_6 c_42 n_50])
        · have n_50 : ¬ (8 ≤ d) := by omega
          refine lv_aload_n hx hb dX3_start_53 rfl (lv_at hl 1 rfl) ?_
          refine lv_aload_n hx hb dX3_start_54 rfl (lv_at hl 2 rfl) ?_
          refine lv_iconst (v := nI 0) hx hb dX3_start_55 (by decide) ?_
          refine lv_iload_n hx hb dX3_start_56 rfl (lv_at hl 3 rfl) ?_
          refine gcVi (As := [.ref (adr (nk x 0)), .int (nI 0), .int (nI d)]) F hK hR hml cv_X3_25 (o := 2) (rfl) rfl rfl (hA.2.2.2.1 r2.2.1 r2.2.2 x 0 d hs2 hd2 hxn (by omega) c_50 (by omega)) ⟨rfl, rfl⟩ ⟨by dsimp only [rmL]; omega, by dsimp only [rmL]; omega⟩ rfl rfl hl.1 (Nat.le_of_ble_eq_true rfl) dX3_start_57 ⟨Nat.zero_le _, Nat.zero_le _⟩ (fun H locs hR => ?_)
          refine lv_goto (tgt := 69) hx hb dX3_start_60 (by decide) ?_
          exact gr_i F hr hlk hK hR dX3_start_69 (by rw [ev1, hP, st_2 rfl c_28, hr_r2, st_5 c_42 c_50]) (by rw [ev1, hP, st_2 rfl c_28, hr_r2, st_5 c_42 c_50])
      · refine lv_iload_n hx hb dX3_start_45 rfl (lv_at hl 0 rfl) ?_
        exact gr_i F hr hlk hK hR dX3_start_46 (by rw [ev1, hP, st_2 rfl c_28, hr_r2, st_4 c_42]) (by rw [ev1, hP, st_2 rfl c_28, hr_r2, st_4 c_42])
  · obtain ⟨hpx, hpe⟩ := sI_par hs hxn hp
    have hP : stP (ev k) x d (S, Y) = ev k 0 (S 3 x).toNatClampNeg 0 0 d (S, Y) := by rw [stP, if_neg hp]
    have hpp : pref adr S x = some (adr (nk (S 3 x).toNatClampNeg 0)) := par_yes hp
    generalize (S 3 x).toNatClampNeg = y at hpx hP hpp
    refine lv_aload_n hx hb dX3_start_2 rfl (lv_at hl 2 rfl) ?_
    refine kg_3 F hK hR (by omega) fl_X3_58 dX3_start_3 ?_
    rw [hpp]
    refine lv_ifnull hx hb dX3_start_6 ?_
    refine lv_aload_n hx hb dX3_start_9 rfl (lv_at hl 1 rfl) ?_
    refine lv_aload_n hx hb dX3_start_10 rfl (lv_at hl 2 rfl) ?_
    refine kg_3 F hK hR (by omega) fl_X3_58 dX3_start_11 ?_
    rw [hpp]
    refine lv_iload_n hx hb dX3_start_14 rfl (lv_at hl 3 rfl) ?_
    refine gcVi (As := [.ref (adr (nk y 0)), .int (nI d)]) F hK hR hml cv_X3_21 (o := 2) (rfl) rfl rfl (hA.1 S Y y d hs hd (by omega) hd8 (by omega)) ⟨rfl, rfl⟩ ⟨by dsimp only [rmL]; omega, by dsimp only [rmL]; omega⟩ rfl rfl hl.1 (Nat.le_of_ble_eq_true rfl) dX3_start_15 ⟨Nat.zero_le _, Nat.zero_le _⟩ (fun H locs hR => ?_)
    have g_r1 := ev_ok n k 0 y 0 0 d (S, Y) hs hd (by omega) (by omega) (fun h => by omega)
    generalize hr_r1 : ev k 0 y 0 0 d (S, Y) = r1 at g_r1 hR ⊢
    obtain ⟨hev_r1, he_r1⟩ := g_r1.2.2.1.ev
    rw [hr_r1] at hP
    have hs1 := hs.to g_r1.1
    have hc1 : cN r1.2.1 n ≤ cN S n := cN_le g_r1.2.1
    have hd1 := g_r1.2.2.1
    refine lv_istore_n (lv' := [(3, .int r1.1), (0, .ref (adr 2)), (1, .ref (adr (nk x 0))), (2, .int (nI d))]) hx hb dX3_start_18 rfl hl (by decide) rfl (fun ls hl => ?_)
    refine lv_iload_n hx hb dX3_start_19 rfl (lv_at hl 0 rfl) ?_
    refine lv_iconst (v := (-1)) hx hb dX3_start_20 (by decide) ?_
    refine lv_icmp_ne (tgt := 40) hx hb dX3_start_21 (by decide) (fun c_21 => ?_) (fun c_21 => ?_)
    · refine lv_iload_n hx hb dX3_start_40 rfl (lv_at hl 0 rfl) ?_
      refine lv_iconst (v := (-1)) hx hb dX3_start_41 (by decide) ?_
      refine lv_icmp_eq (tgt := 47) hx hb dX3_start_42 (by decide) (fun c_42 => absurd c_42 (c_21)) (fun c_42 => ?_)
      refine lv_iload_n hx hb dX3_start_45 rfl (lv_at hl 0 rfl) ?_
      exact gr_i F hr hlk hK hR dX3_start_46 (by rw [ev1, hP, st_1 c_21, st_4 c_21]) (by rw [ev1, hP, st_1 c_21, st_4 c_21])
    · refine lv_aload_n hx hb dX3_start_24 rfl (lv_at hl 2 rfl) ?_
      refine kg_1 F hK hR (by omega) fl_X3_62 dX3_start_25 ?_
      refine lv_if_ne (tgt := 40) hx hb dX3_start_28 (by decide) (fun c_28 => ?_) (fun c_28 => ?_)
      · refine lv_iload_n hx hb dX3_start_40 rfl (lv_at hl 0 rfl) ?_
        refine lv_iconst (v := (-1)) hx hb dX3_start_41 (by decide) ?_
        refine lv_icmp_eq (tgt := 47) hx hb dX3_start_42 (by decide) (fun c_42 => ?_) (fun c_42 => absurd c_21 c_42)
        refine lv_iload_n hx hb dX3_start_47 rfl (lv_at hl 3 rfl) ?_
        refine lv_bipush (v := nI 8) hx hb dX3_start_48 (by decide) ?_
        refine nv_icmp_ge (by omega) (by omega) hx hb dX3_start_50 (tgt := 63) (by decide) (fun c_50 => ?_) (fun c_50 => ?_)
        · have n_50 : ¬ (d < 8) := by omega
          refine lv_aload_n hx hb dX3_start_63 rfl (lv_at hl 1 rfl) ?_
          refine lv_bipush (v := nI 9) hx hb dX3_start_64 (by decide) ?_
          refine gcVi (As := [.int (nI 9)]) F hK hR hml cv_X3_41 (o := 2) (rfl) rfl rfl (c_X3_raise l G A adr n r1.2.1 r1.2.2 L (nI 9) (by decide)) ⟨rfl, rfl⟩ ⟨by dsimp only [rmL]; omega, by dsimp only [rmL]; omega⟩ rfl rfl hl.1 (Nat.le_of_ble_eq_true rfl) dX3_start_66 ⟨Nat.zero_le _, Nat.zero_le _⟩ (fun H locs hR => ?_)
          exact gr_i F hr hlk hK hR dX3_start_69 (by rw [ev1, hP, st_3 c_21 c_28, st_6 c_21 n_50]) (by rw [ev1, hP, st_3 c_21 c_28, st_6 c_21 n_50])
        · have n_50 : ¬ (8 ≤ d) := by omega
          refine lv_aload_n hx hb dX3_start_53 rfl (lv_at hl 1 rfl) ?_
          refine lv_aload_n hx hb dX3_start_54 rfl (lv_at hl 2 rfl) ?_
          refine lv_iconst (v := nI 0) hx hb dX3_start_55 (by decide) ?_
          refine lv_iload_n hx hb dX3_start_56 rfl (lv_at hl 3 rfl) ?_
          refine gcVi (As := [.ref (adr (nk x 0)), .int (nI 0), .int (nI d)]) F hK hR hml cv_X3_25 (o := 2) (rfl) rfl rfl (hA.2.2.2.1 r1.2.1 r1.2.2 x 0 d hs1 hd1 hxn (by omega) c_50 (by omega)) ⟨rfl, rfl⟩ ⟨by dsimp only [rmL]; omega, by dsimp only [rmL]; omega⟩ rfl rfl hl.1 (Nat.le_of_ble_eq_true rfl) dX3_start_57 ⟨Nat.zero_le _, Nat.zero_le _⟩ (fun H locs hR => ?_)
          refine lv_goto (tgt := 69) hx hb dX3_start_60 (by decide) ?_
          exact gr_i F hr hlk hK hR dX3_start_69 (by rw [ev1, hP, st_3 c_21 c_28, st_5 c_21 c_50]) (by rw [ev1, hP, st_3 c_21 c_28, st_5 c_21 c_50])
      · refine lv_aload_n hx hb dX3_start_31 rfl (lv_at hl 1 rfl) ?_
        refine lv_aload_n hx hb dX3_start_32 rfl (lv_at hl 2 rfl) ?_
        refine lv_iload_n hx hb dX3_start_33 rfl (lv_at hl 3 rfl) ?_
        refine lv_bipush (v := nI 12) hx hb dX3_start_34 (by decide) ?_
        refine gcVi (As := [.ref (adr (nk x 0)), .int (nI d), .int (nI 12)]) F hK hR hml cv_X3_66 (o := 2) (rfl) rfl rfl (hA.2.2.1 r1.2.1 r1.2.2 x 12 d hs1 hd1 hxn hd8 (by omega) (by omega)) ⟨rfl, rfl⟩ ⟨by dsimp only [rmL]; omega, by dsimp only [rmL]; omega⟩ rfl rfl hl.1 (Nat.le_of_ble_eq_true rfl) dX3_start_36 ⟨Nat.zero_le _, Nat.zero_le _⟩ (fun H locs hR => ?_)
        have g_r2 := ev_ok n k 2 x 0 12 d (r1.2.1, r1.2.2) hs1 hd1 hxn (by omega) (fun h => by omega)
        generalize hr_r2 : ev k 2 x 0 12 d (r1.2.1, r1.2.2) = r2 at g_r2 hR ⊢
        obtain ⟨hev_r2, he_r2⟩ := g_r2.2.2.1.ev
        have hs2 := (hs1).to g_r2.1
        have hc2 : cN r2.2.1 n ≤ cN r1.2.1 n := cN_le g_r2.2.1
        have hd2 := g_r2.2.2.1
        refine lv_istore_n (lv' := [(3, .int r2.1), (0, .ref (adr 2)), (1, .ref (adr (nk x 0))), (2, .int (nI d))]) hx hb dX3_start_39 rfl hl (by decide) rfl (fun ls hl => ?_)
        refine lv_iload_n hx hb dX3_start_40 rfl (lv_at hl 0 rfl) ?_
        refine lv_iconst (v := (-1)) hx hb dX3_start_41 (by decide) ?_
        refine lv_icmp_eq (tgt := 47) hx hb dX3_start_42 (by decide) (fun c_42 => ?_) (fun c_42 => ?_)
        · refine lv_iload_n hx hb dX3_start_47 rfl (lv_at hl 3 rfl) ?_
          refine lv_bipush (v := nI 8) hx hb dX3_start_48 (by decide) ?_
          refine nv_icmp_ge (by omega) (by omega) hx hb dX3_start_50 (tgt := 63) (by decide) (fun c_50 => ?_) (fun c_50 => ?_)
          · have n_50 : ¬ (d < 8) := by omega
            refine lv_aload_n hx hb dX3_start_63 rfl (lv_at hl 1 rfl) ?_
            refine lv_bipush (v := nI 9) hx hb dX3_start_64 (by decide) ?_
            refine gcVi (As := [.int (nI 9)]) F hK hR hml cv_X3_41 (o := 2) (rfl) rfl rfl (c_X3_raise l G A adr n r2.2.1 r2.2.2 L (nI 9) (by decide)) ⟨rfl, rfl⟩ ⟨by dsimp only [rmL]; omega, by dsimp only [rmL]; omega⟩ rfl rfl hl.1 (Nat.le_of_ble_eq_true rfl) dX3_start_66 ⟨Nat.zero_le _, Nat.zero_le _⟩ (fun H locs hR => ?_)
            exact gr_i F hr hlk hK hR dX3_start_69 (by rw [ev1, hP, st_2 c_21 c_28, hr_r2, st_6 c_42 n_50]) (by rw [ev1, hP, st_2 c_21 c_28, hr_r2, st_6 c_42 n_50])
          · have n_50 : ¬ (8 ≤ d) := by omega
            refine lv_aload_n hx hb dX3_start_53 rfl (lv_at hl 1 rfl) ?_
            refine lv_aload_n hx hb dX3_start_54 rfl (lv_at hl 2 rfl) ?_
            refine lv_iconst (v := nI 0) hx hb dX3_start_55 (by decide) ?_
            refine lv_iload_n hx hb dX3_start_56 rfl (lv_at hl 3 rfl) ?_
            refine gcVi (As := [.ref (adr (nk x 0)), .int (nI 0), .int (nI d)]) F hK hR hml cv_X3_25 (o := 2) (rfl) rfl rfl (hA.2.2.2.1 r2.2.1 r2.2.2 x 0 d hs2 hd2 hxn (by omega) c_50 (by omega)) ⟨rfl, rfl⟩ ⟨by dsimp only [rmL]; omega, by dsimp only [rmL]; omega⟩ rfl rfl hl.1 (Nat.le_of_ble_eq_true rfl) dX3_start_57 ⟨Nat.zero_le _, Nat.zero_le _⟩ (fun H locs hR => ?_)
            refine lv_goto (tgt := 69) hx hb dX3_start_60 (by decide) ?_
            exact gr_i F hr hlk hK hR dX3_start_69 (by rw [ev1, hP, st_2 c_21 c_28, hr_r2, st_5 c_42 c_50]) (by rw [ev1, hP, st_2 c_21 c_28, hr_r2, st_5 c_42 c_50])
        · refine lv_iload_n hx hb dX3_start_45 rfl (lv_at hl 0 rfl) ?_
          exact gr_i F hr hlk hK hR dX3_start_46 (by rw [ev1, hP, st_2 c_21 c_28, hr_r2, st_4 c_42]) (by rw [ev1, hP, st_2 c_21 c_28, hr_r2, st_4 c_42])
set_option maxHeartbeats 4000000 in
set_option maxRecDepth 100000 in
theorem st_lookThrough {l : Launch} {G : gw_G} {A : Nat → Prop} {adr : Nat → Nat} {n : Nat} {L : Int64} {k : Nat} (hA : cmAll l G A adr n L k) : cmL l G A adr n L (k + 1) := by
  intro S Y x lv d hs hd hxn hd8 hl12 hm
  refine gm_of (own := RX3) (by decide) rfl (Nat.le_of_ble_eq_true rfl) ?_
  intro p e s m below meth c ls F hml hr hlk hnm hK hR hl
  have hx := F.1
  have hb := F.2.1
  obtain ⟨hev, he⟩ := hd.ev
  have hn12 := hs.1
  replace hl : lv_has ls 7 [(0, .ref (adr 2)), (1, .ref (adr (nk x 0))), (2, .int (nI d)), (3, .int (nI lv))] := hl
  refine lv_iconst (v := (-1)) hx hb dX3_lookThrough_0 (by decide) ?_
  refine lv_istore (lv' := [(4, .int (-1)), (0, .ref (adr 2)), (1, .ref (adr (nk x 0))), (2, .int (nI d)), (3, .int (nI lv))]) hx hb dX3_lookThrough_1 hl (by decide) rfl (fun ls hl => ?_)
  refine lv_iconst (v := nI 0) hx hb dX3_lookThrough_3 (by decide) ?_
  refine lv_istore (lv' := [(5, .int (nI 0)), (4, .int (-1)), (0, .ref (adr 2)), (1, .ref (adr (nk x 0))), (2, .int (nI d)), (3, .int (nI lv))]) hx hb dX3_lookThrough_4 hl (by decide) rfl (fun ls hl => ?_)
  obtain ⟨fc, hfc3, hfe⟩ := hs.2.2.1 x (by omega)
  have hfn : (S 4 x).toNatClampNeg = fc := by rw [hfe, nI_clamp (by omega)]
  obtain ⟨R0, hR0⟩ : ∃ R0, R0 = ev (k + 1) 2 x 0 lv d (S, Y) := ⟨_, rfl⟩
  rw [← hR0]
  refine lp_gen hR (fun H locs hR => ?_)
  obtain ⟨i, hi0⟩ : ∃ i : Nat, i = 0 := ⟨_, rfl⟩
  obtain ⟨w, hw0⟩ : ∃ w : Int32, w = -1 := ⟨_, rfl⟩
  obtain ⟨st, hst0⟩ : ∃ st : cST, st = (S, Y) := ⟨_, rfl⟩
  have hs0 : sI n st.1 := by rw [hst0]; exact hs
  have hd0 : dI n st.1 := by rw [hst0]; exact hd
  have hm0 : 40 * cN st.1 n + 5 * (8 - d) + 2 + lv ≤ k + 1 := by rw [hst0]; exact hm
  have hst : sta S st.1 := by rw [hst0]; exact sta.rf
  have hle : i ≤ fc := by omega
  have hQ : lkL (ev k) x d lv (fc - i) i w st = R0 := by rw [hR0, ev2, hi0, hw0, hst0, hfn, Nat.sub_zero]
  generalize hdd : fc - i = dd at hQ
  replace hl : lv_has ls 7 [(5, .int (nI i)), (4, .int w), (0, .ref (adr 2)), (1, .ref (adr (nk x 0))), (2, .int (nI d)), (3, .int (nI lv))] := by rw [hi0, hw0]; exact lv_sub hl [0, 1, 2, 3, 4, 5] rfl
  replace hR : cB G A adr n st.1 st.2 L s.heap H locs := by rw [hst0]; exact hR
  clear hR0 hi0 hw0 hst0 hs hd hm hev he
  induction dd generalizing i w st ls H locs with
  | zero =>
    have h4 : st.1 4 x = nI fc := (congrFun (hst 4 (by omega)) x).trans hfe
    have hRw : (w, st) = R0 := hQ
    refine lv_iload hx hb dX3_lookThrough_6 (lv_at hl 0 rfl) ?_
    refine lv_aload_n hx hb dX3_lookThrough_8 rfl (lv_at hl 3 rfl) ?_
    refine kg_5 F hK hR (by omega) fl_X3_72 dX3_lookThrough_9 ?_
    refine lv_eq (h4) ?_
    refine nv_icmp_ge (by omega) (by omega) hx hb dX3_lookThrough_12 (tgt := 75) (by decide) (fun c_12 => ?_) (fun c_12 => absurd c_12 (by omega))
    refine lv_iload hx hb dX3_lookThrough_75 (lv_at hl 1 rfl) ?_
    exact gr_i F hr hlk hK hR dX3_lookThrough_77 (by rw [← hRw]) (by rw [← hRw])
  | succ dd ih =>
    have h4 : st.1 4 x = nI fc := (congrFun (hst 4 (by omega)) x).trans hfe
    have hi4 : i < (st.1 4 x).toNatClampNeg := by rw [h4, nI_clamp (by omega)]; omega
    obtain ⟨hyx, hye⟩ := sI_face hs0 hxn hi4
    obtain ⟨y, hyy⟩ : ∃ y, y = (st.1 5 (3 * x + i)).toNatClampNeg := ⟨_, rfl⟩
    rw [← hyy] at hyx hye
    have hr0 : dd + 1 = (fc - (i + 1)) + 1 := by omega
    have hye2 : (st.1 5 (3 * x + i)).toNatClampNeg = y := hyy.symm
    refine lv_iload hx hb dX3_lookThrough_6 (lv_at hl 0 rfl) ?_
    refine lv_aload_n hx hb dX3_lookThrough_8 rfl (lv_at hl 3 rfl) ?_
    refine kg_5 F hK hR (by omega) fl_X3_72 dX3_lookThrough_9 ?_
    refine lv_eq (h4) ?_
    refine nv_icmp_ge (by omega) (by omega) hx hb dX3_lookThrough_12 (tgt := 75) (by decide) (fun c_12 => absurd c_12 (by omega)) (fun c_12 => ?_)
    refine lv_iload hx hb dX3_lookThrough_15 (lv_at hl 1 rfl) ?_
    refine lv_iconst (v := (-1)) hx hb dX3_lookThrough_17 (by decide) ?_
    refine lv_icmp_ne (tgt := 75) hx hb dX3_lookThrough_18 (by decide) (fun c_18 => ?_) (fun c_18 => ?_)
    · refine lv_iload hx hb dX3_lookThrough_75 (lv_at hl 1 rfl) ?_
      exact gr_i F hr hlk hK hR dX3_lookThrough_77 (by rw [← hQ, lkL, if_pos c_18]) (by rw [← hQ, lkL, if_pos c_18])
    · have hw : w = -1 := c_18
      refine lv_iload_n hx hb dX3_lookThrough_21 rfl (lv_at hl 5 rfl) ?_
      refine nv_if_le (by omega) hx hb dX3_lookThrough_22 (tgt := 75) (by decide) (fun c_22 => ?_) (fun c_22 => ?_)
      · have n_22 : ¬ (0 < lv) := by omega
        refine lv_iload hx hb dX3_lookThrough_75 (lv_at hl 1 rfl) ?_
        exact gr_i F hr hlk hK hR dX3_lookThrough_77 (by rw [← hQ, lkL, if_neg (not_not_intro hw), if_pos c_22]) (by rw [← hQ, lkL, if_neg (not_not_intro hw), if_pos c_22])
      · have n_22 : ¬ (lv ≤ 0) := by omega
        refine lv_aload_n hx hb dX3_lookThrough_25 rfl (lv_at hl 3 rfl) ?_
        refine kg_4 F hK hR (by omega) fl_X3_75 dX3_lookThrough_26 ?_
        refine lv_iload hx hb dX3_lookThrough_29 (lv_at hl 0 rfl) ?_
        refine fc_ld F hK hR (by omega) (h4) (by omega) (by omega) (hye) (by omega) dX3_lookThrough_31 ?_
        refine lv_astore (lv' := [(6, .ref (adr (nk y 0))), (5, .int (nI i)), (4, .int w), (0, .ref (adr 2)), (1, .ref (adr (nk x 0))), (2, .int (nI d)), (3, .int (nI lv))]) hx hb dX3_lookThrough_32 hl (by decide) rfl (fun ls hl => ?_)
        refine lv_aload_n hx hb dX3_lookThrough_34 rfl (lv_at hl 3 rfl) ?_
        refine lv_aload hx hb dX3_lookThrough_35 (lv_at hl 0 rfl) ?_
        refine lv_iload_n hx hb dX3_lookThrough_37 rfl (lv_at hl 5 rfl) ?_
        refine lv_iload_n hx hb dX3_lookThrough_38 rfl (lv_at hl 6 rfl) ?_
        refine lv_iconst (v := nI 1) hx hb dX3_lookThrough_39 (by decide) ?_
        refine nv_isub (by omega) hx hb dX3_lookThrough_40 ?_
        refine gcVi (As := [.ref (adr (nk y 0)), .int (nI d), .int (nI (lv - 1))]) F hK hR hml cv_X3_66 (o := 2) (rfl) rfl rfl (hA.2.2.1 st.1 st.2 y (lv - 1) d hs0 hd0 (by omega) hd8 (by omega) (by omega)) ⟨rfl, rfl⟩ ⟨by dsimp only [rmL]; omega, by dsimp only [rmL]; omega⟩ rfl rfl hl.1 (Nat.le_of_ble_eq_true rfl) dX3_lookThrough_41 ⟨Nat.zero_le _, Nat.zero_le _⟩ (fun H locs hR => ?_)
        have g_r1 := ev_ok n k 2 y 0 (lv - 1) d st hs0 hd0 (by omega) (by omega) (fun h => by omega)
        generalize hr_r1 : ev k 2 y 0 (lv - 1) d st = r1 at g_r1 hR ⊢
        obtain ⟨hev_r1, he_r1⟩ := g_r1.2.2.1.ev
        have hs1 := hs0.to g_r1.1
        have hd1 := g_r1.2.2.1
        have hc1 : cN r1.2.1 n ≤ cN st.1 n := cN_le g_r1.2.1
        refine lv_istore (lv' := [(4, .int r1.1), (6, .ref (adr (nk y 0))), (5, .int (nI i)), (0, .ref (adr 2)), (1, .ref (adr (nk x 0))), (2, .int (nI d)), (3, .int (nI lv))]) hx hb dX3_lookThrough_44 hl (by decide) rfl (fun ls hl => ?_)
        refine lv_iload hx hb dX3_lookThrough_46 (lv_at hl 0 rfl) ?_
        refine lv_iconst (v := (-1)) hx hb dX3_lookThrough_48 (by decide) ?_
        refine lv_icmp_ne (tgt := 69) hx hb dX3_lookThrough_49 (by decide) (fun c_49 => ?_) (fun c_49 => ?_)
        · refine lv_iinc (v := nI (i + 1)) (lv' := [(5, .int (nI (i + 1))), (4, .int r1.1), (6, .ref (adr (nk y 0))), (0, .ref (adr 2)), (1, .ref (adr (nk x 0))), (2, .int (nI d)), (3, .int (nI lv))]) hx hb dX3_lookThrough_69 hl (k := 2) rfl (nI_add _ _) (by decide) rfl (fun ls hl => ?_)
          refine lv_goto (tgt := 6) hx hb dX3_lookThrough_72 (by decide) ?_
          have hQ2 : lkL (ev k) x d lv dd (i + 1) r1.1 r1.2 = R0 := by rw [← hQ, lkL, if_neg (not_not_intro hw), if_neg (by omega), hye2, hr_r1, if_pos c_49]
          have hcn : 40 * cN r1.2.1 n + 5 * (8 - d) + 2 + lv ≤ k + 1 := by omega
          exact ih _ _ _ (i + 1) r1.1 r1.2 hs1 hd1 hcn (hst.tr g_r1.1) (by omega) (by omega) hQ2 (lv_sub hl [0, 1, 3, 4, 5, 6] rfl) hR
        · refine lv_aload hx hb dX3_lookThrough_52 (lv_at hl 1 rfl) ?_
          refine kg_2 F hK hR (by omega) fl_X3_79 dX3_lookThrough_54 ?_
          refine lv_if_eq (tgt := 69) hx hb dX3_lookThrough_57 (by decide) (fun c_57 => ?_) (fun c_57 => ?_)
          · refine lv_iinc (v := nI (i + 1)) (lv' := [(5, .int (nI (i + 1))), (4, .int r1.1), (6, .ref (adr (nk y 0))), (0, .ref (adr 2)), (1, .ref (adr (nk x 0))), (2, .int (nI d)), (3, .int (nI lv))]) hx hb dX3_lookThrough_69 hl (k := 2) rfl (nI_add _ _) (by decide) rfl (fun ls hl => ?_)
            refine lv_goto (tgt := 6) hx hb dX3_lookThrough_72 (by decide) ?_
            have hQ2 : lkL (ev k) x d lv dd (i + 1) r1.1 r1.2 = R0 := by rw [← hQ, lkL, if_neg (not_not_intro hw), if_neg (by omega), hye2, hr_r1, if_neg (not_not_intro c_49), if_pos (by rw [← congrFun (g_r1.1 2 (by omega)) y]; exact c_57)]
            have hcn : 40 * cN r1.2.1 n + 5 * (8 - d) + 2 + lv ≤ k + 1 := by omega
            exact ih _ _ _ (i + 1) r1.1 r1.2 hs1 hd1 hcn (hst.tr g_r1.1) (by omega) (by omega) hQ2 (lv_sub hl [0, 1, 3, 4, 5, 6] rfl) hR
          · refine lv_aload_n hx hb dX3_lookThrough_60 rfl (lv_at hl 3 rfl) ?_
            refine lv_aload hx hb dX3_lookThrough_61 (lv_at hl 1 rfl) ?_
            refine lv_iload_n hx hb dX3_lookThrough_63 rfl (lv_at hl 5 rfl) ?_
            refine gcVi (As := [.ref (adr (nk y 0)), .int (nI d)]) F hK hR hml cv_X3_21 (o := 2) (rfl) rfl rfl (hA.1 r1.2.1 r1.2.2 y d hs1 hd1 (by omega) hd8 (by omega)) ⟨rfl, rfl⟩ ⟨by dsimp only [rmL]; omega, by dsimp only [rmL]; omega⟩ rfl rfl hl.1 (Nat.le_of_ble_eq_true rfl) dX3_lookThrough_64 ⟨Nat.zero_le _, Nat.zero_le _⟩ (fun H locs hR => ?_)
            have g_r2 := ev_ok n k 0 y 0 0 d r1.2 hs1 hd1 (by omega) (by omega) (fun h => by omega)
            generalize hr_r2 : ev k 0 y 0 0 d r1.2 = r2 at g_r2 hR ⊢
            obtain ⟨hev_r2, he_r2⟩ := g_r2.2.2.1.ev
            refine lv_istore (lv' := [(4, .int r2.1), (6, .ref (adr (nk y 0))), (5, .int (nI i)), (0, .ref (adr 2)), (1, .ref (adr (nk x 0))), (2, .int (nI d)), (3, .int (nI lv))]) hx hb dX3_lookThrough_67 hl (by decide) rfl (fun ls hl => ?_)
            refine lv_iinc (v := nI (i + 1)) (lv' := [(5, .int (nI (i + 1))), (4, .int r2.1), (6, .ref (adr (nk y 0))), (0, .ref (adr 2)), (1, .ref (adr (nk x 0))), (2, .int (nI d)), (3, .int (nI lv))]) hx hb dX3_lookThrough_69 hl (k := 2) rfl (nI_add _ _) (by decide) rfl (fun ls hl => ?_)
            refine lv_goto (tgt := 6) hx hb dX3_lookThrough_72 (by decide) ?_
            have hQ2 : lkL (ev k) x d lv dd (i + 1) r2.1 r2.2 = R0 := by rw [← hQ, lkL, if_neg (not_not_intro hw), if_neg (by omega), hye2, hr_r1, if_neg (not_not_intro c_49), if_neg (by rw [← congrFun (g_r1.1 2 (by omega)) y]; exact c_57), hr_r2]
            have hcn : 40 * cN r2.2.1 n + 5 * (8 - d) + 2 + lv ≤ k + 1 := by have hc2 := cN_le g_r2.2.1; omega
            exact ih _ _ _ (i + 1) r2.1 r2.2 (hs1.to g_r2.1) g_r2.2.2.1 hcn ((hst.tr g_r1.1).tr g_r2.1) (by omega) (by omega) hQ2 (lv_sub hl [0, 1, 3, 4, 5, 6] rfl) hR
