/-! THE CLASS, 4: its machine, all its methods at once, by the fuel -/
def cmW (l : Launch) (G : gw_G) (A : Nat → Prop) (adr : Nat → Nat) (n : Nat) (L : Int64) (k : Nat) : Prop := ∀ (S Y : Nat → Nat → Int32) (x d : Nat), sI n S → dI n S → x < n → d ≤ 8 → 40 * cN S n + 5 * (8 - d) + 1 ≤ k → gm l yX3_want cX3_want 4 (some .int) (rmL (k + 3)) 0 0 A [.ref (adr 2), .ref (adr (nk x 0)), .int (nI d)] (gW G A adr (ccel G adr n S Y L)) (gW G A adr (ccel G adr n (ev k 0 x 0 0 d (S, Y)).2.1 (ev k 0 x 0 0 d (S, Y)).2.2 L)) (some (.int (ev k 0 x 0 0 d (S, Y)).1))
def cmS (l : Launch) (G : gw_G) (A : Nat → Prop) (adr : Nat → Nat) (n : Nat) (L : Int64) (k : Nat) : Prop := ∀ (S Y : Nat → Nat → Int32) (x d : Nat), sI n S → dI n S → x < n → d ≤ 8 → 40 * cN S n + 5 * (8 - d) + 30 ≤ k → gm l yX3_start cX3_start 4 (some .int) (rmL (k + 3)) 0 0 A [.ref (adr 2), .ref (adr (nk x 0)), .int (nI d)] (gW G A adr (ccel G adr n S Y L)) (gW G A adr (ccel G adr n (ev k 1 x 0 0 d (S, Y)).2.1 (ev k 1 x 0 0 d (S, Y)).2.2 L)) (some (.int (ev k 1 x 0 0 d (S, Y)).1))
def cmL (l : Launch) (G : gw_G) (A : Nat → Prop) (adr : Nat → Nat) (n : Nat) (L : Int64) (k : Nat) : Prop := ∀ (S Y : Nat → Nat → Int32) (x lv d : Nat), sI n S → dI n S → x < n → d ≤ 8 → lv ≤ 12 → 40 * cN S n + 5 * (8 - d) + 2 + lv ≤ k → gm l yX3_lookThrough cX3_lookThrough 7 (some .int) (rmL (k + 3)) 0 0 A [.ref (adr 2), .ref (adr (nk x 0)), .int (nI d), .int (nI lv)] (gW G A adr (ccel G adr n S Y L)) (gW G A adr (ccel G adr n (ev k 2 x 0 lv d (S, Y)).2.1 (ev k 2 x 0 lv d (S, Y)).2.2 L)) (some (.int (ev k 2 x 0 lv d (S, Y)).1))
def cmK (l : Launch) (G : gw_G) (A : Nat → Prop) (adr : Nat → Nat) (n : Nat) (L : Int64) (k : Nat) : Prop := ∀ (S Y : Nat → Nat → Int32) (x q d : Nat), sI n S → dI n S → x < n → q < 4 → d < 8 → 40 * cN S n + 5 * (8 - d) ≤ k → gm l yX3_work cX3_work 9 (some .int) (rmL (k + 3)) 0 0 A [.ref (adr 2), .ref (adr (nk x 0)), .int (nI q), .int (nI d)] (gW G A adr (ccel G adr n S Y L)) (gW G A adr (ccel G adr n (ev k 3 x q 0 d (S, Y)).2.1 (ev k 3 x q 0 d (S, Y)).2.2 L)) (some (.int (ev k 3 x q 0 d (S, Y)).1))
def cmB (l : Launch) (G : gw_G) (A : Nat → Prop) (adr : Nat → Nat) (n : Nat) (L : Int64) (k : Nat) : Prop := ∀ (S Y : Nat → Nat → Int32) (x q i d : Nat), sI n S → dI n S → x < n → q < 4 → i < (S 10 (4 * x + q)).toNatClampNeg → d ≤ 8 → 40 * cN S n + 5 * (8 - d) + 4 ≤ k → gm l yX3_begin cX3_begin 5 (some .int) (rmL (k + 3)) 0 0 A [.ref (adr 2), .ref (adr (nk x 0)), .ref (adr (nk x (14 + 10 * q + i))), .int (nI d)] (gW G A adr (ccel G adr n S Y L)) (gW G A adr (ccel G adr n (ev k 4 x q i d (S, Y)).2.1 (ev k 4 x q i d (S, Y)).2.2 L)) (some (.int (ev k 4 x q i d (S, Y)).1))
def cmP (l : Launch) (G : gw_G) (A : Nat → Prop) (adr : Nat → Nat) (n : Nat) (L : Int64) (k : Nat) : Prop := ∀ (S Y : Nat → Nat → Int32) (x q i d : Nat), sI n S → dI n S → x < n → q < 4 → i < (S 10 (4 * x + q)).toNatClampNeg → d ≤ 8 → 40 * cN S n + 5 * (8 - d) + 3 ≤ k → gm l yX3_perform cX3_perform 4 (some .int) (rmL (k + 3)) 0 0 A [.ref (adr 2), .ref (adr (nk x 0)), .ref (adr (nk x (14 + 10 * q + i))), .int (nI d)] (gW G A adr (ccel G adr n S Y L)) (gW G A adr (ccel G adr n (ev k 5 x q i d (S, Y)).2.1 (ev k 5 x q i d (S, Y)).2.2 L)) (some (.int (ev k 5 x q i d (S, Y)).1))
def cmE (l : Launch) (G : gw_G) (A : Nat → Prop) (adr : Nat → Nat) (n : Nat) (L : Int64) (k : Nat) : Prop := ∀ (S Y : Nat → Nat → Int32) (x q d : Nat), sI n S → dI n S → x < n → q < 4 → d ≤ 8 → 40 * cN S n + 5 * (8 - d) + 2 ≤ k → gm l yX3_enter cX3_enter 4 (some .int) (rmL (k + 3)) 0 0 A [.ref (adr 2), .ref (adr (nk x 0)), .int (nI q), .int (nI d)] (gW G A adr (ccel G adr n S Y L)) (gW G A adr (ccel G adr n (ev k 6 x q 0 d (S, Y)).2.1 (ev k 6 x q 0 d (S, Y)).2.2 L)) (some (.int (ev k 6 x q 0 d (S, Y)).1))
def cmAll (l : Launch) (G : gw_G) (A : Nat → Prop) (adr : Nat → Nat) (n : Nat) (L : Int64) (k : Nat) : Prop := cmW l G A adr n L k ∧ cmS l G A adr n L k ∧ cmL l G A adr n L k ∧ cmK l G A adr n L k ∧ cmB l G A adr n L k ∧ cmP l G A adr n L k ∧ cmE l G A adr n L k
theorem ev0 {k x q i d : Nat} {st : cST} : ev (k + 1) 0 x q i d st = if st.1 12 x = nI 3 then (nI 8, (sp_ar st.1 (nI 8), st.2)) else if st.1 12 x = 0 then wtE x (ev k 1 x 0 0 d (wt0 st.1 x, st.2)) else (-1, st) := rfl
theorem ev1 {k x q i d : Nat} {st : cST} : ev (k + 1) 1 x q i d st = stW (ev k) x d (stL (ev k) x d (stP (ev k) x d st)) := rfl
theorem ev2 {k x q i d : Nat} {st : cST} : ev (k + 1) 2 x q i d st = lkL (ev k) x d i (st.1 4 x).toNatClampNeg 0 (-1) st := rfl
theorem ev3 {k x q i d : Nat} {st : cST} : ev (k + 1) 3 x q i d st = wkL (ev k) x q d (st.1 10 (4 * x + q)).toNatClampNeg 0 0 st := rfl
theorem ev4 {k x q i d : Nat} {st : cST} : ev (k + 1) 4 x q i d st = if nI 80 ≤ st.1 17 0 then (nI 10, st) else bgN (ev k) x q i d (if evW st.1 x q i = -1 then (-1, (bgS st.1, st.2)) else ev k 0 (evW st.1 x q i).toNatClampNeg 0 0 d (bgS st.1, st.2)) := rfl
theorem ev5 {k x q i d : Nat} {st : cST} : ev (k + 1) 5 x q i d st = if (st.1 11 (aT x q i)).toNatClampNeg = 7 then ev k 6 (st.1 11 (aT x q i + 1)).toNatClampNeg (st.1 11 (aT x q i + 2)).toNatClampNeg 0 d st
    else if (st.1 11 (aT x q i)).toNatClampNeg = 11 then (-1, st)
    else (sp_doR st.1 x (st.1 11 (aT x q i)).toNatClampNeg (st.1 11 (aT x q i + 1)) (st.1 11 (aT x q i + 2)) (st.1 11 (aT x q i + 3)), (sp_doS st.1 (cev st.1) x (st.1 11 (aT x q i)).toNatClampNeg (st.1 11 (aT x q i + 1)) (st.1 11 (aT x q i + 2)) (st.1 11 (aT x q i + 3)), st.2)) := rfl
theorem ev6 {k x q i d : Nat} {st : cST} : ev (k + 1) 6 x q i d st = if d < 8 then ev k 3 x q 0 d (sp_tell st.1 (cev st.1) (nI 4) (nI (10 * x + q)), st.2) else (nI 9, (sp_ar st.1 (nI 9), st.2)) := rfl
theorem wt0_dI {n x : Nat} {S : Nat → Nat → Int32} (h : dI n S) : dI n (wt0 S x) := by
  unfold wt0
  rw [← st_cev (x := x) (v := nI 1)]
  exact tell_dI (st_dI h (by decide))
theorem wt0_sta {x : Nat} {S : Nat → Nat → Int32} : sta S (wt0 S x) := st_sta.tr tell_sta
theorem wt0_cN {n x : Nat} {S : Nat → Nat → Int32} (hx : x < n) (h : S 12 x = 0) : cN (wt0 S x) n + 1 = cN S n := by
  rw [← cN_dec hx h (v := nI 1) (by decide)]
  rw [cN_eq (S := m2 S 12 x (nI 1)) (S2 := wt0 S x) (fun y _ => congrFun (sp_tell_ne (by decide) (by decide) (by decide)) y)]
theorem eq12_cN {n : Nat} {S S2 : Nat → Nat → Int32} (h : S2 12 = S 12) : cN S2 n = cN S n := cN_eq (fun x _ => by rw [h])
theorem par_no {adr : Nat → Nat} {S : Nat → Nat → Int32} {x : Nat} (h : S 3 x = -1) : pref adr S x = none := by rw [pref, if_pos h]
theorem par_yes {adr : Nat → Nat} {S : Nat → Nat → Int32} {x : Nat} (h : ¬ S 3 x = -1) : pref adr S x = some (adr (nk (S 3 x).toNatClampNeg 0)) := by rw [pref, if_neg h]
set_option maxHeartbeats 4000000 in
set_option maxRecDepth 100000 in
theorem st_want {l : Launch} {G : gw_G} {A : Nat → Prop} {adr : Nat → Nat} {n : Nat} {L : Int64} {k : Nat} (hA : cmAll l G A adr n L k) : cmW l G A adr n L (k + 1) := by
  intro S Y x d hs hd hxn hd8 hm
  refine gm_of (own := RX3) (by decide) rfl (Nat.le_of_ble_eq_true rfl) ?_
  intro p e s m below meth c ls F hml hr hlk hnm hK hR hl
  have hx := F.1
  have hb := F.2.1
  obtain ⟨hev, he⟩ := hd.ev
  have hn12 := hs.1
  replace hl : lv_has ls 4 [(0, .ref (adr 2)), (1, .ref (adr (nk x 0))), (2, .int (nI d))] := hl
  refine lv_aload_n hx hb dX3_want_0 rfl (lv_at hl 1 rfl) ?_
  refine kg_11 F hK hR (by omega) fl_X3_36 dX3_want_1 ?_
  refine lv_iconst (v := nI 3) hx hb dX3_want_4 (by decide) ?_
  refine lv_icmp_ne (tgt := 15) hx hb dX3_want_5 (by decide) (fun c_5 => ?_) (fun c_5 => ?_)
  · refine lv_aload_n hx hb dX3_want_15 rfl (lv_at hl 1 rfl) ?_
    refine kg_11 F hK hR (by omega) fl_X3_36 dX3_want_16 ?_
    refine lv_if_eq (tgt := 24) hx hb dX3_want_19 (by decide) (fun c_19 => ?_) (fun c_19 => ?_)
    · refine lv_aload_n hx hb dX3_want_24 rfl (lv_at hl 1 rfl) ?_
      refine lv_iconst (v := nI 1) hx hb dX3_want_25 (by decide) ?_
      refine kp_11 F hK hR (by omega) fl_X3_36 dX3_want_26 (fun H locs hR => ?_)
      refine lv_aload_n hx hb dX3_want_29 rfl (lv_at hl 0 rfl) ?_
      refine ng_0 F hK hR fl_X3_12 dX3_want_30 ?_
      refine lv_iconst (v := nI 0) hx hb dX3_want_33 (by decide) ?_
      refine lv_aload_n hx hb dX3_want_34 rfl (lv_at hl 1 rfl) ?_
      refine kg_0 F hK hR (by omega) fl_X3_45 dX3_want_35 ?_
      refine gcVv (As := [.int (nI 0), .int (nI x)]) F hK hR hml cv_X3_48 (o := 3) (rfl) rfl rfl (c_X1_note l G A adr n (m2 S 12 x (nI 1)) Y L (cev S) (nI 0) (nI x) ((m2_nk (by decide)).trans (hev)) (by omega)) ⟨rfl, rfl⟩ ⟨by dsimp only [rmL]; omega, by dsimp only [rmL]; omega⟩ rfl rfl hl.1 (Nat.le_of_ble_eq_true rfl) dX3_want_38 ⟨Nat.zero_le _, Nat.zero_le _⟩ (fun H locs hR => ?_)
      replace hR : cB G A adr n (wt0 S x) Y L s.heap H locs := hR
      have hd0 : dI n (wt0 S x) := wt0_dI hd
      have hc0 := wt0_cN hxn c_19
      refine lv_aload_n hx hb dX3_want_41 rfl (lv_at hl 0 rfl) ?_
      refine lv_aload_n hx hb dX3_want_42 rfl (lv_at hl 1 rfl) ?_
      refine lv_iload_n hx hb dX3_want_43 rfl (lv_at hl 2 rfl) ?_
      refine gcVi (As := [.ref (adr (nk x 0)), .int (nI d)]) F hK hR hml cv_X3_52 (o := 2) (rfl) rfl rfl (hA.2.1 (wt0 S x) Y x d (hs.to wt0_sta) hd0 hxn hd8 (by omega)) ⟨rfl, rfl⟩ ⟨by dsimp only [rmL]; omega, by dsimp only [rmL]; omega⟩ rfl rfl hl.1 (Nat.le_of_ble_eq_true rfl) dX3_want_44 ⟨Nat.zero_le _, Nat.zero_le _⟩ (fun H locs hR => ?_)
      have g_r1 := ev_ok n k 1 x 0 0 d (wt0 S x, Y) (hs.to wt0_sta) hd0 hxn (by omega) (fun h => by omega)
      generalize hr_r1 : ev k 1 x 0 0 d (wt0 S x, Y) = r1 at g_r1 hR ⊢
      obtain ⟨hev_r1, he_r1⟩ := g_r1.2.2.1.ev
      refine lv_istore_n (lv' := [(3, .int r1.1), (0, .ref (adr 2)), (1, .ref (adr (nk x 0))), (2, .int (nI d))]) hx hb dX3_want_47 rfl hl (by decide) rfl (fun ls hl => ?_)
      refine lv_iload_n hx hb dX3_want_48 rfl (lv_at hl 0 rfl) ?_
      refine lv_iconst (v := (-1)) hx hb dX3_want_49 (by decide) ?_
      refine lv_icmp_ne (tgt := 72) hx hb dX3_want_50 (by decide) (fun c_50 => ?_) (fun c_50 => ?_)
      · refine lv_aload_n hx hb dX3_want_72 rfl (lv_at hl 2 rfl) ?_
        refine lv_iconst (v := nI 3) hx hb dX3_want_73 (by decide) ?_
        refine kp_11 F hK hR (by omega) fl_X3_36 dX3_want_74 (fun H locs hR => ?_)
        refine lv_aload_n hx hb dX3_want_77 rfl (lv_at hl 1 rfl) ?_
        refine ng_0 F hK hR fl_X3_12 dX3_want_78 ?_
        refine lv_iconst (v := nI 2) hx hb dX3_want_81 (by decide) ?_
        refine lv_aload_n hx hb dX3_want_82 rfl (lv_at hl 2 rfl) ?_
        refine kg_0 F hK hR (by omega) fl_X3_45 dX3_want_83 ?_
        refine gcVv (As := [.int (nI 2), .int (nI x)]) F hK hR hml cv_X3_48 (o := 3) (rfl) rfl rfl (c_X1_note l G A adr n (m2 r1.2.1 12 x (nI 3)) r1.2.2 L (cev r1.2.1) (nI 2) (nI x) ((m2_nk (by decide)).trans (hev_r1)) (by omega)) ⟨rfl, rfl⟩ ⟨by dsimp only [rmL]; omega, by dsimp only [rmL]; omega⟩ rfl rfl hl.1 (Nat.le_of_ble_eq_true rfl) dX3_want_86 ⟨Nat.zero_le _, Nat.zero_le _⟩ (fun H locs hR => ?_)
        by_cases hw7 : r1.1 < nI 7
        · skip
          refine lv_aload_n hx hb dX3_want_89 rfl (lv_at hl 1 rfl) ?_
          refine lv_iload_n hx hb dX3_want_90 rfl (lv_at hl 0 rfl) ?_
          refine gcVi (As := [.int r1.1]) F hK hR hml cv_X3_55 (o := 2) (rfl) rfl rfl (c_X3_afterS l G A adr n (sp_tell (m2 r1.2.1 12 x (nI 3)) (cev r1.2.1) (nI 2) (nI x)) r1.2.2 L r1.1 hw7) ⟨rfl, rfl⟩ ⟨by dsimp only [rmL]; omega, by dsimp only [rmL]; omega⟩ rfl rfl hl.1 (Nat.le_of_ble_eq_true rfl) dX3_want_91 ⟨Nat.zero_le _, Nat.zero_le _⟩ (fun H locs hR => ?_)
          exact gr_i F hr hlk hK hR dX3_want_94 (by rw [ev0, if_neg c_5, if_pos c_19]; dsimp only; rw [hr_r1, wtE, if_neg c_50, if_pos hw7]) (by rw [ev0, if_neg c_5, if_pos c_19]; dsimp only; rw [hr_r1, wtE, if_neg c_50, if_pos hw7])
        · skip
          refine lv_aload_n hx hb dX3_want_89 rfl (lv_at hl 1 rfl) ?_
          refine lv_iload_n hx hb dX3_want_90 rfl (lv_at hl 0 rfl) ?_
          refine gcVi (As := [.int r1.1]) F hK hR hml cv_X3_55 (o := 2) (rfl) rfl rfl (c_X3_afterT l G A adr n (sp_tell (m2 r1.2.1 12 x (nI 3)) (cev r1.2.1) (nI 2) (nI x)) r1.2.2 L r1.1 hw7) ⟨rfl, rfl⟩ ⟨by dsimp only [rmL]; omega, by dsimp only [rmL]; omega⟩ rfl rfl hl.1 (Nat.le_of_ble_eq_true rfl) dX3_want_91 ⟨Nat.zero_le _, Nat.zero_le _⟩ (fun H locs hR => ?_)
          exact gr_i F hr hlk hK hR dX3_want_94 (by rw [ev0, if_neg c_5, if_pos c_19]; dsimp only; rw [hr_r1, wtE, if_neg c_50, if_neg hw7]) (by rw [ev0, if_neg c_5, if_pos c_19]; dsimp only; rw [hr_r1, wtE, if_neg c_50, if_neg hw7])
      · refine lv_aload_n hx hb dX3_want_53 rfl (lv_at hl 2 rfl) ?_
        refine lv_iconst (v := nI 2) hx hb dX3_want_54 (by decide) ?_
        refine kp_11 F hK hR (by omega) fl_X3_36 dX3_want_55 (fun H locs hR => ?_)
        refine lv_aload_n hx hb dX3_want_58 rfl (lv_at hl 1 rfl) ?_
        refine ng_0 F hK hR fl_X3_12 dX3_want_59 ?_
        refine lv_iconst (v := nI 1) hx hb dX3_want_62 (by decide) ?_
        refine lv_aload_n hx hb dX3_want_63 rfl (lv_at hl 2 rfl) ?_
        refine kg_0 F hK hR (by omega) fl_X3_45 dX3_want_64 ?_
        refine gcVv (As := [.int (nI 1), .int (nI x)]) F hK hR hml cv_X3_48 (o := 3) (rfl) rfl rfl (c_X1_note l G A adr n (m2 r1.2.1 12 x (nI 2)) r1.2.2 L (cev r1.2.1) (nI 1) (nI x) ((m2_nk (by decide)).trans (hev_r1)) (by omega)) ⟨rfl, rfl⟩ ⟨by dsimp only [rmL]; omega, by dsimp only [rmL]; omega⟩ rfl rfl hl.1 (Nat.le_of_ble_eq_true rfl) dX3_want_67 ⟨Nat.zero_le _, Nat.zero_le _⟩ (fun H locs hR => ?_)
        refine lv_iconst (v := (-1)) hx hb dX3_want_70 (by decide) ?_
        exact gr_i F hr hlk hK hR dX3_want_71 (by rw [ev0, if_neg c_5, if_pos c_19]; dsimp only; rw [hr_r1, wtE, if_pos c_50]) (by rw [ev0, if_neg c_5, if_pos c_19]; dsimp only; rw [hr_r1, wtE, if_pos c_50])
    · refine lv_iconst (v := (-1)) hx hb dX3_want_22 (by decide) ?_
      exact gr_i F hr hlk hK hR dX3_want_23 (by rw [ev0, if_neg c_5, if_neg c_19]) (by rw [ev0, if_neg c_5, if_neg c_19])
  · refine lv_aload_n hx hb dX3_want_8 rfl (lv_at hl 0 rfl) ?_
    refine lv_bipush (v := nI 8) hx hb dX3_want_9 (by decide) ?_
    refine gcVi (As := [.int (nI 8)]) F hK hR hml cv_X3_41 (o := 2) (rfl) rfl rfl (c_X3_raise l G A adr n S Y L (nI 8) (by decide)) ⟨rfl, rfl⟩ ⟨by dsimp only [rmL]; omega, by dsimp only [rmL]; omega⟩ rfl rfl hl.1 (Nat.le_of_ble_eq_true rfl) dX3_want_11 ⟨Nat.zero_le _, Nat.zero_le _⟩ (fun H locs hR => ?_)
    exact gr_i F hr hlk hK hR dX3_want_14 (by rw [ev0, if_pos c_5]) (by rw [ev0, if_pos c_5])
