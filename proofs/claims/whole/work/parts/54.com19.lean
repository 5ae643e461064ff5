/-! THE CLASS, 19: addFace, bears -/
theorem kcel_face {G : gw_G} {adr : Nat → Nat} {S : Nat → Nat → Int32} {x y fc x' j : Nat} (h3 : fc < 3) (hl : ∀ x, x < 12 → ∃ fc, fc ≤ 3 ∧ S 4 x = nI fc) (hx' : x' < 12) (hne : ¬ (x' = x ∧ j ≤ 1)) : kcel G adr (m2 (m2 S 5 (3 * x + fc) (nI y)) 4 x (nI (fc + 1))) x' j = kcel G adr S x' j := by
  have e : ∀ a, a ≠ 4 → a ≠ 5 → (m2 (m2 S 5 (3 * x + fc) (nI y)) 4 x (nI (fc + 1))) a = S a := fun a h1 h2 => by rw [m2_ne h1, m2_ne h2]
  have hm : ∀ q, mfs adr (m2 (m2 S 5 (3 * x + fc) (nI y)) 4 x (nI (fc + 1))) x' q = mfs adr S x' q := fun q => by unfold mfs; rw [e 10 (by decide) (by decide)]
  have ha : ∀ q, acR adr (m2 (m2 S 5 (3 * x + fc) (nI y)) 4 x (nI (fc + 1))) x' q = acR adr S x' q := fun q => by unfold acR; rw [e 10 (by decide) (by decide)]
  have hf : ∀ q i, afs adr (m2 (m2 S 5 (3 * x + fc) (nI y)) 4 x (nI (fc + 1))) x' q i = afs adr S x' q i := fun q i => by unfold afs; rw [e 11 (by decide) (by decide)]
  unfold kcel
  by_cases c0 : j = 0
  · rw [if_pos c0, if_pos c0]
    unfold kfs pref
    rw [e 1 (by decide) (by decide), e 2 (by decide) (by decide), e 3 (by decide) (by decide), e 8 (by decide) (by decide), e 12 (by decide) (by decide), m2_o (show x' ≠ x from fun q => hne ⟨q, by omega⟩), m2_nk (show 4 ≠ 5 by decide)]
  rw [if_neg c0, if_neg c0]
  by_cases c1 : j = 1
  · rw [if_pos c1, if_pos c1]
    have hxx : x' ≠ x := fun q => hne ⟨q, by omega⟩
    have ef : fcR adr (m2 (m2 S 5 (3 * x + fc) (nI y)) 4 x (nI (fc + 1))) x' = fcR adr S x' := by
      funext i
      unfold fcR
      obtain ⟨f, hf3, hfe⟩ := hl x' hx'
      rw [m2_o hxx, m2_nk (show 4 ≠ 5 by decide), hfe, nI_clamp (by omega)]
      by_cases d : i < f
      · rw [if_pos d, if_pos d, m2_nk (show 5 ≠ 4 by decide), m2_o (by omega)]
      · rw [if_neg d, if_neg d]
    rw [ef]
  rw [if_neg c1, if_neg c1, e 6 (by decide) (by decide), e 7 (by decide) (by decide), e 9 (by decide) (by decide), hm, ha, hf, e 10 (by decide) (by decide)]
theorem ccel_face {G : gw_G} {adr : Nat → Nat} {n : Nat} {S Y : Nat → Nat → Int32} {L : Int64} {x y fc : Nat} (hx : x < n) (hn : n ≤ 12) (hy : y < 12) (hfc : S 4 x = nI fc) (h3 : fc < 3) (hl : ∀ x, x < 12 → ∃ fc, fc ≤ 3 ∧ S 4 x = nI fc) :
    va_up (va_up (ccel G adr n S Y L) (nk x 1) (some (.inl (G.2 3, 3, qr (va_up (fcR adr S x) fc (some (adr (nk y 0)))))))) (nk x 0) (some (.inr (2, (kfs adr S x).set 5 (.int (nI (fc + 1)))))) = ccel G adr n (m2 (m2 S 5 (3 * x + fc) (nI y)) 4 x (nI (fc + 1))) Y L := by
  have e : ∀ a, a ≠ 4 → a ≠ 5 → (m2 (m2 S 5 (3 * x + fc) (nI y)) 4 x (nI (fc + 1))) a = S a := fun a h1 h2 => by rw [m2_ne h1, m2_ne h2]
  funext a
  by_cases a1 : a = nk x 0
  · subst a1
    rw [ccel_k hx (by decide)]
    simp only [va_up, if_true]
    show _ = (some (.inr (2, kfs adr (m2 (m2 S 5 (3 * x + fc) (nI y)) 4 x (nI (fc + 1))) x)) : Option va_E)
    unfold kfs pref
    rw [e 1 (by decide) (by decide), e 2 (by decide) (by decide), e 3 (by decide) (by decide), e 8 (by decide) (by decide), e 12 (by decide) (by decide), m2_at]
    rfl
  by_cases a2 : a = nk x 1
  · subst a2
    rw [show ∀ f g, va_up (va_up (ccel G adr n S Y L) (nk x 1) f) (nk x 0) g (nk x 1) = f from fun f g => by simp only [va_up, if_neg a1, if_true], ccel_k hx (by decide)]
    show _ = (some (.inl (G.2 3, 3, qr (fcR adr (m2 (m2 S 5 (3 * x + fc) (nI y)) 4 x (nI (fc + 1))) x))) : Option va_E)
    have ef : va_up (fcR adr S x) fc (some (adr (nk y 0))) = fcR adr (m2 (m2 S 5 (3 * x + fc) (nI y)) 4 x (nI (fc + 1))) x := by
      funext i
      unfold fcR va_up
      rw [m2_at, hfc, nI_clamp (by omega), nI_clamp (by omega)]
      by_cases c : i = fc
      · rw [if_pos c, if_pos (by omega), c, m2_nk (show 5 ≠ 4 by decide), m2_at, nI_clamp (by omega)]
      · rw [if_neg c]
        dsimp only
        by_cases d : i < fc
        · rw [if_pos d, if_pos (by omega), m2_nk (show 5 ≠ 4 by decide), m2_o (by omega)]
        · rw [if_neg d, if_neg (by omega)]
    rw [ef]
  rw [show ∀ f g, va_up (va_up (ccel G adr n S Y L) (nk x 1) f) (nk x 0) g a = ccel G adr n S Y L a from fun f g => by simp only [va_up, if_neg a1, if_neg a2]]
  match a, a1, a2 with
  | 0, _, _ => simp only [ccel, ofs, e 0 (by decide) (by decide)]
  | 1, _, _ => rfl
  | 2, _, _ => rfl
  | 3, _, _ => simp only [ccel, jfs, e 13 (by decide) (by decide), e 16 (by decide) (by decide), e 17 (by decide) (by decide), e 18 (by decide) (by decide)]
  | 4, _, _ => simp only [ccel, e 14 (by decide) (by decide)]
  | 5, _, _ => simp only [ccel, e 15 (by decide) (by decide)]
  | 6, _, _ => rfl
  | 7, _, _ => rfl
  | b + 8, a1, a2 =>
    simp only [ccel]
    by_cases hb : b / 60 < n
    · rw [if_pos hb, if_pos hb, kcel_face h3 hl (by omega) (by
        rintro ⟨q1, q2⟩
        by_cases d : b % 60 = 0
        · exact a1 (by show b + 8 = 8 + 60 * x + 0; omega)
        · exact a2 (by show b + 8 = 8 + 60 * x + 1; omega))]
    · rw [if_neg hb, if_neg hb]
set_option maxHeartbeats 4000000 in
set_option maxRecDepth 100000 in
/-- Kind.addFace(face) -/
theorem c_X2_addFaceK (l : Launch) (G : gw_G) (A : Nat → Prop) (adr : Nat → Nat) (n : Nat) (S Y : Nat → Nat → Int32) (L : Int64) (x y fc : Nat) (hs : sI n S) (hxn : x < n) (hyn : y < n) (hfc : S 4 x = nI fc) (h3 : fc < 3) : gm l yX2_addFace cX2_addFace 2 (some .int) (rmL 1) 0 0 A [.ref (adr (nk x 0)), .ref (adr (nk y 0))] (gW G A adr (ccel G adr n S Y L)) (gW G A adr (ccel G adr n (m2 (m2 S 5 (3 * x + fc) (nI y)) 4 x (nI (fc + 1))) Y L)) (some (.int (nI (fc + 1)))) := by
  refine gm_of (own := RX2) (by decide) rfl (Nat.le_of_ble_eq_true rfl) ?_
  intro p e s m below meth c ls F hml hr hlk hnm hK hR hl
  have hx := F.1
  have hb := F.2.1
  replace hl : lv_has ls 2 [(0, .ref (adr (nk x 0))), (1, .ref (adr (nk y 0)))] := hl
  have hn12 := hs.1
  refine lv_aload_n hx hb dX2_addFace_0 rfl (lv_at hl 0 rfl) ?_
  refine kg_5 F hK hR (by omega) fl_X2_15 dX2_addFace_1 ?_
  refine lv_eq (hfc) ?_
  refine lv_iconst (v := nI 3) hx hb dX2_addFace_4 (by decide) ?_
  refine nv_icmp_lt (by omega) (by omega) hx hb dX2_addFace_5 (tgt := 11) (by decide) (fun c_5 => ?_) (fun c_5 => absurd c_5 (by omega))
  refine lv_aload_n hx hb dX2_addFace_11 rfl (lv_at hl 0 rfl) ?_
  refine kg_4 F hK hR (by omega) fl_X2_11 dX2_addFace_12 ?_
  refine lv_aload_n hx hb dX2_addFace_15 rfl (lv_at hl 0 rfl) ?_
  refine kg_5 F hK hR (by omega) fl_X2_15 dX2_addFace_16 ?_
  refine lv_eq (hfc) ?_
  refine lv_aload_n hx hb dX2_addFace_19 rfl (lv_at hl 1 rfl) ?_
  refine gw_aast F hK hR (nk x 1) 3 (r := (RX2, TX2, 12)) rfl (ccel_k hxn (by decide)) (nk y 0) 2 (ccel_k hyn (by decide)) rfl (vp_in_nI (by omega) (by decide)) dX2_addFace_20 (fun H locs hR => ?_)
  rw [nI_clamp (by omega)] at hR
  have hme : ∀ e, va_up (ccel G adr n S Y L) (nk x 1) e (nk x 0) = some (.inr (2, kfs adr S x)) := fun e => by
    show (if nk x 0 = nk x 1 then _ else _) = _
    rw [if_neg (by show 8 + 60 * x + 0 ≠ 8 + 60 * x + 1; omega)]
    exact ccel_k hxn (by decide)
  refine lv_aload_n hx hb dX2_addFace_21 rfl (lv_at hl 0 rfl) ?_
  refine lv_dup hx hb dX2_addFace_22 rfl ?_
  refine gw_get F hK hR.1 (nk x 0) (hme _) rfl inX2 5 (by decide) fl_X2_15 rfl dX2_addFace_23 ?_
  refine lv_eq hfc ?_
  refine lv_iconst (v := nI 1) hx hb dX2_addFace_26 (by decide) ?_
  refine nv_iadd hx hb dX2_addFace_27 ?_
  refine gw_put F hK hR (nk x 0) (hme _) rfl inX2 tyX2 tyX2_ok nmX2 5 (by decide) fl_X2_15 rfl (ty := .int) rfl rfl rfl (Nat.le_of_ble_eq_true rfl) dX2_addFace_28 (fun H locs hR => ?_)
  replace hR : cB G A adr n (m2 (m2 S 5 (3 * x + fc) (nI y)) 4 x (nI (fc + 1))) Y L s.heap H locs := gw_B.to hR (ccel_face hxn hn12 (by omega) hfc h3 hs.2.2.1)
  refine lv_aload_n hx hb dX2_addFace_31 rfl (lv_at hl 0 rfl) ?_
  refine kg_5 F hK hR (by omega) fl_X2_15 dX2_addFace_32 ?_
  refine lv_eq (m2_at) ?_
  exact gr_i F hr hlk hK hR dX2_addFace_35 (rfl) (rfl)
set_option maxHeartbeats 4000000 in
set_option maxRecDepth 100000 in
/-- Kind.addFace(face): no room -/
theorem c_X2_addFaceF (l : Launch) (G : gw_G) (A : Nat → Prop) (adr : Nat → Nat) (n : Nat) (S Y : Nat → Nat → Int32) (L : Int64) (x y : Nat) (hxn : x < n) (hfc : S 4 x = nI 3) : gm l yX2_addFace cX2_addFace 2 (some .int) (rmL 1) 0 0 A [.ref (adr (nk x 0)), .ref (adr (nk y 0))] (gW G A adr (ccel G adr n S Y L)) (gW G A adr (ccel G adr n S Y L)) (some (.int (-5))) := by
  refine gm_of (own := RX2) (by decide) rfl (Nat.le_of_ble_eq_true rfl) ?_
  intro p e s m below meth c ls F hml hr hlk hnm hK hR hl
  have hx := F.1
  have hb := F.2.1
  replace hl : lv_has ls 2 [(0, .ref (adr (nk x 0))), (1, .ref (adr (nk y 0)))] := hl
  refine lv_aload_n hx hb dX2_addFace_0 rfl (lv_at hl 0 rfl) ?_
  refine kg_5 F hK hR (by omega) fl_X2_15 dX2_addFace_1 ?_
  refine lv_eq (hfc) ?_
  refine lv_iconst (v := nI 3) hx hb dX2_addFace_4 (by decide) ?_
  refine nv_icmp_lt (by omega) (by omega) hx hb dX2_addFace_5 (tgt := 11) (by decide) (fun c_5 => absurd c_5 (by omega)) (fun c_5 => ?_)
  refine lv_bipush (v := (-5)) hx hb dX2_addFace_8 (by decide) ?_
  exact gr_i F hr hlk hK hR dX2_addFace_10 (rfl) (rfl)
set_option maxHeartbeats 4000000 in
set_option maxRecDepth 100000 in
/-- bears: unknown -/
theorem c_X6_bearsNN (l : Launch) (G : gw_G) (A : Nat → Prop) (adr : Nat → Nat) (n : Nat) (S Y : Nat → Nat → Int32) (L : Int64) (x0 x1 : Int32) (hs : sI n S) (h0 : sp_has (S 0 0) x0 = 0) (h1 : sp_has (S 0 0) x1 = 0) : gm l yX6_bears cX6_bears 5 (some .int) (rmL 4) 0 0 A [.ref (adr 0), .int x0, .int x1] (gW G A adr (ccel G adr n S Y L)) (gW G A adr (ccel G adr n S Y L)) (some (.int (-2))) := by
  refine gm_of (own := RX6) (by decide) rfl (Nat.le_of_ble_eq_true rfl) ?_
  intro p e s m below meth c ls F hml hr hlk hnm hK hR hl
  have hx := F.1
  have hb := F.2.1
  replace hl : lv_has ls 5 [(0, .ref (adr 0)), (1, .int x0), (2, .int x1)] := hl
  have hn12 := hs.1
  have hn0 := hs.2.1
  refine lv_aload_n hx hb dX6_bears_0 rfl (lv_at hl 0 rfl) ?_
  refine lv_iload_n hx hb dX6_bears_1 rfl (lv_at hl 1 rfl) ?_
  refine gcV (As := [.int x0]) F hK hR hml cv_X6_33 (o := 0) (rfl) rfl rfl (c_X6_findN l G A adr n S Y L x0 hn0 hn12 h0) ⟨rfl, rfl⟩ ⟨Nat.le_of_ble_eq_true rfl, Nat.le_of_ble_eq_true rfl⟩ rfl rfl hl.1 (Nat.le_of_ble_eq_true rfl) dX6_bears_2 ⟨Nat.zero_le _, Nat.zero_le _⟩ (fun H locs hR => ?_)
  refine lv_astore_nN (lv' := [(3, .null), (0, .ref (adr 0)), (1, .int x0), (2, .int x1)]) hx hb dX6_bears_5 rfl hl (by decide) rfl (fun ls hl => ?_)
  refine lv_aload_n hx hb dX6_bears_6 rfl (lv_at hl 1 rfl) ?_
  refine lv_iload_n hx hb dX6_bears_7 rfl (lv_at hl 3 rfl) ?_
  refine gcV (As := [.int x1]) F hK hR hml cv_X6_33 (o := 0) (rfl) rfl rfl (c_X6_findN l G A adr n S Y L x1 hn0 hn12 h1) ⟨rfl, rfl⟩ ⟨Nat.le_of_ble_eq_true rfl, Nat.le_of_ble_eq_true rfl⟩ rfl rfl hl.1 (Nat.le_of_ble_eq_true rfl) dX6_bears_8 ⟨Nat.zero_le _, Nat.zero_le _⟩ (fun H locs hR => ?_)
  refine lv_astoreN (lv' := [(4, .null), (3, .null), (0, .ref (adr 0)), (1, .int x0), (2, .int x1)]) hx hb dX6_bears_11 hl (by decide) rfl (fun ls hl => ?_)
  refine lv_aload_nN hx hb dX6_bears_13 rfl (lv_at hl 1 rfl) ?_
  refine lv_ifnullN (tgt := 22) hx hb dX6_bears_14 (by decide) ?_
  refine lv_bipush (v := (-2)) hx hb dX6_bears_22 (by decide) ?_
  exact gr_i F hr hlk hK hR dX6_bears_24 (rfl) (rfl)
set_option maxHeartbeats 4000000 in
set_option maxRecDepth 100000 in
/-- bears: unknown -/
theorem c_X6_bearsNY (l : Launch) (G : gw_G) (A : Nat → Prop) (adr : Nat → Nat) (n : Nat) (S Y : Nat → Nat → Int32) (L : Int64) (x0 : Int32) (y : Nat) (hs : sI n S) (h0 : sp_has (S 0 0) x0 = 0) (hyn : y < n) : gm l yX6_bears cX6_bears 5 (some .int) (rmL 4) 0 0 A [.ref (adr 0), .int x0, .int (nI y)] (gW G A adr (ccel G adr n S Y L)) (gW G A adr (ccel G adr n S Y L)) (some (.int (-2))) := by
  refine gm_of (own := RX6) (by decide) rfl (Nat.le_of_ble_eq_true rfl) ?_
  intro p e s m below meth c ls F hml hr hlk hnm hK hR hl
  have hx := F.1
  have hb := F.2.1
  replace hl : lv_has ls 5 [(0, .ref (adr 0)), (1, .int x0), (2, .int (nI y))] := hl
  have hn12 := hs.1
  have hn0 := hs.2.1
  refine lv_aload_n hx hb dX6_bears_0 rfl (lv_at hl 0 rfl) ?_
  refine lv_iload_n hx hb dX6_bears_1 rfl (lv_at hl 1 rfl) ?_
  refine gcV (As := [.int x0]) F hK hR hml cv_X6_33 (o := 0) (rfl) rfl rfl (c_X6_findN l G A adr n S Y L x0 hn0 hn12 h0) ⟨rfl, rfl⟩ ⟨Nat.le_of_ble_eq_true rfl, Nat.le_of_ble_eq_true rfl⟩ rfl rfl hl.1 (Nat.le_of_ble_eq_true rfl) dX6_bears_2 ⟨Nat.zero_le _, Nat.zero_le _⟩ (fun H locs hR => ?_)
  refine lv_astore_nN (lv' := [(3, .null), (0, .ref (adr 0)), (1, .int x0), (2, .int (nI y))]) hx hb dX6_bears_5 rfl hl (by decide) rfl (fun ls hl => ?_)
  refine lv_aload_n hx hb dX6_bears_6 rfl (lv_at hl 1 rfl) ?_
  refine lv_iload_n hx hb dX6_bears_7 rfl (lv_at hl 3 rfl) ?_
  refine gcV (As := [.int (nI y)]) F hK hR hml cv_X6_33 (o := 0) (rfl) rfl rfl (c_X6_findY l G A adr n S Y L y hn0 hn12 (by omega)) ⟨rfl, rfl⟩ ⟨Nat.le_of_ble_eq_true rfl, Nat.le_of_ble_eq_true rfl⟩ rfl rfl hl.1 (Nat.le_of_ble_eq_true rfl) dX6_bears_8 ⟨Nat.zero_le _, Nat.zero_le _⟩ (fun H locs hR => ?_)
  refine lv_astore (lv' := [(4, .ref (adr (nk y 0))), (3, .null), (0, .ref (adr 0)), (1, .int x0), (2, .int (nI y))]) hx hb dX6_bears_11 hl (by decide) rfl (fun ls hl => ?_)
  refine lv_aload_nN hx hb dX6_bears_13 rfl (lv_at hl 1 rfl) ?_
  refine lv_ifnullN (tgt := 22) hx hb dX6_bears_14 (by decide) ?_
  refine lv_bipush (v := (-2)) hx hb dX6_bears_22 (by decide) ?_
  exact gr_i F hr hlk hK hR dX6_bears_24 (rfl) (rfl)
set_option maxHeartbeats 4000000 in
set_option maxRecDepth 100000 in
/-- bears: unknown -/
theorem c_X6_bearsYN (l : Launch) (G : gw_G) (A : Nat → Prop) (adr : Nat → Nat) (n : Nat) (S Y : Nat → Nat → Int32) (L : Int64) (x : Nat) (x1 : Int32) (hs : sI n S) (hxn : x < n) (h1 : sp_has (S 0 0) x1 = 0) : gm l yX6_bears cX6_bears 5 (some .int) (rmL 4) 0 0 A [.ref (adr 0), .int (nI x), .int x1] (gW G A adr (ccel G adr n S Y L)) (gW G A adr (ccel G adr n S Y L)) (some (.int (-2))) := by
  refine gm_of (own := RX6) (by decide) rfl (Nat.le_of_ble_eq_true rfl) ?_
  intro p e s m below meth c ls F hml hr hlk hnm hK hR hl
  have hx := F.1
  have hb := F.2.1
  replace hl : lv_has ls 5 [(0, .ref (adr 0)), (1, .int (nI x)), (2, .int x1)] := hl
  have hn12 := hs.1
  have hn0 := hs.2.1
  refine lv_aload_n hx hb dX6_bears_0 rfl (lv_at hl 0 rfl) ?_
  refine lv_iload_n hx hb dX6_bears_1 rfl (lv_at hl 1 rfl) ?_
  refine gcV (As := [.int (nI x)]) F hK hR hml cv_X6_33 (o := 0) (rfl) rfl rfl (c_X6_findY l G A adr n S Y L x hn0 hn12 (by omega)) ⟨rfl, rfl⟩ ⟨Nat.le_of_ble_eq_true rfl, Nat.le_of_ble_eq_true rfl⟩ rfl rfl hl.1 (Nat.le_of_ble_eq_true rfl) dX6_bears_2 ⟨Nat.zero_le _, Nat.zero_le _⟩ (fun H locs hR => ?_)
  refine lv_astore_n (lv' := [(3, .ref (adr (nk x 0))), (0, .ref (adr 0)), (1, .int (nI x)), (2, .int x1)]) hx hb dX6_bears_5 rfl hl (by decide) rfl (fun ls hl => ?_)
  refine lv_aload_n hx hb dX6_bears_6 rfl (lv_at hl 1 rfl) ?_
  refine lv_iload_n hx hb dX6_bears_7 rfl (lv_at hl 3 rfl) ?_
  refine gcV (As := [.int x1]) F hK hR hml cv_X6_33 (o := 0) (rfl) rfl rfl (c_X6_findN l G A adr n S Y L x1 hn0 hn12 h1) ⟨rfl, rfl⟩ ⟨Nat.le_of_ble_eq_true rfl, Nat.le_of_ble_eq_true rfl⟩ rfl rfl hl.1 (Nat.le_of_ble_eq_true rfl) dX6_bears_8 ⟨Nat.zero_le _, Nat.zero_le _⟩ (fun H locs hR => ?_)
  refine lv_astoreN (lv' := [(4, .null), (3, .ref (adr (nk x 0))), (0, .ref (adr 0)), (1, .int (nI x)), (2, .int x1)]) hx hb dX6_bears_11 hl (by decide) rfl (fun ls hl => ?_)
  refine lv_aload_n hx hb dX6_bears_13 rfl (lv_at hl 1 rfl) ?_
  refine lv_ifnull hx hb dX6_bears_14 ?_
  refine lv_aloadN hx hb dX6_bears_17 (lv_at hl 0 rfl) ?_
  refine lv_ifnonnullN hx hb dX6_bears_19 ?_
  refine lv_bipush (v := (-2)) hx hb dX6_bears_22 (by decide) ?_
  exact gr_i F hr hlk hK hR dX6_bears_24 (rfl) (rfl)
set_option maxHeartbeats 4000000 in
set_option maxRecDepth 100000 in
/-- bears: no FACE -/
theorem c_X6_bears1 (l : Launch) (G : gw_G) (A : Nat → Prop) (adr : Nat → Nat) (n : Nat) (S Y : Nat → Nat → Int32) (L : Int64) (x y : Nat) (hs : sI n S) (hxn : x < n) (hyn : y < n) (hno : S 1 y = 0) : gm l yX6_bears cX6_bears 5 (some .int) (rmL 4) 0 0 A [.ref (adr 0), .int (nI x), .int (nI y)] (gW G A adr (ccel G adr n S Y L)) (gW G A adr (ccel G adr n S Y L)) (some (.int (-4))) := by
  refine gm_of (own := RX6) (by decide) rfl (Nat.le_of_ble_eq_true rfl) ?_
  intro p e s m below meth c ls F hml hr hlk hnm hK hR hl
  have hx := F.1
  have hb := F.2.1
  replace hl : lv_has ls 5 [(0, .ref (adr 0)), (1, .int (nI x)), (2, .int (nI y))] := hl
  have hn12 := hs.1
  have hn0 := hs.2.1
  refine lv_aload_n hx hb dX6_bears_0 rfl (lv_at hl 0 rfl) ?_
  refine lv_iload_n hx hb dX6_bears_1 rfl (lv_at hl 1 rfl) ?_
  refine gcV (As := [.int (nI x)]) F hK hR hml cv_X6_33 (o := 0) (rfl) rfl rfl (c_X6_findY l G A adr n S Y L x hn0 hn12 (by omega)) ⟨rfl, rfl⟩ ⟨Nat.le_of_ble_eq_true rfl, Nat.le_of_ble_eq_true rfl⟩ rfl rfl hl.1 (Nat.le_of_ble_eq_true rfl) dX6_bears_2 ⟨Nat.zero_le _, Nat.zero_le _⟩ (fun H locs hR => ?_)
  refine lv_astore_n (lv' := [(3, .ref (adr (nk x 0))), (0, .ref (adr 0)), (1, .int (nI x)), (2, .int (nI y))]) hx hb dX6_bears_5 rfl hl (by decide) rfl (fun ls hl => ?_)
  refine lv_aload_n hx hb dX6_bears_6 rfl (lv_at hl 1 rfl) ?_
  refine lv_iload_n hx hb dX6_bears_7 rfl (lv_at hl 3 rfl) ?_
  refine gcV (As := [.int (nI y)]) F hK hR hml cv_X6_33 (o := 0) (rfl) rfl rfl (c_X6_findY l G A adr n S Y L y hn0 hn12 (by omega)) ⟨rfl, rfl⟩ ⟨Nat.le_of_ble_eq_true rfl, Nat.le_of_ble_eq_true rfl⟩ rfl rfl hl.1 (Nat.le_of_ble_eq_true rfl) dX6_bears_8 ⟨Nat.zero_le _, Nat.zero_le _⟩ (fun H locs hR => ?_)
  refine lv_astore (lv' := [(4, .ref (adr (nk y 0))), (3, .ref (adr (nk x 0))), (0, .ref (adr 0)), (1, .int (nI x)), (2, .int (nI y))]) hx hb dX6_bears_11 hl (by decide) rfl (fun ls hl => ?_)
  refine lv_aload_n hx hb dX6_bears_13 rfl (lv_at hl 1 rfl) ?_
  refine lv_ifnull hx hb dX6_bears_14 ?_
  refine lv_aload hx hb dX6_bears_17 (lv_at hl 0 rfl) ?_
  refine lv_ifnonnull (tgt := 25) hx hb dX6_bears_19 (by decide) ?_
  refine lv_aload hx hb dX6_bears_25 (lv_at hl 0 rfl) ?_
  refine kg_1 F hK hR (by omega) fl_X6_37 dX6_bears_27 ?_
  refine lv_if_eq (tgt := 64) hx hb dX6_bears_30 (by decide) (fun c_30 => ?_) (fun c_30 => absurd hno c_30)
  refine lv_bipush (v := (-4)) hx hb dX6_bears_64 (by decide) ?_
  exact gr_i F hr hlk hK hR dX6_bears_66 (rfl) (rfl)
set_option maxHeartbeats 4000000 in
set_option maxRecDepth 100000 in
/-- bears: not made before -/
theorem c_X6_bears2 (l : Launch) (G : gw_G) (A : Nat → Prop) (adr : Nat → Nat) (n : Nat) (S Y : Nat → Nat → Int32) (L : Int64) (x y : Nat) (hs : sI n S) (hxn : x < n) (hyn : y < n) (hf : ¬ S 1 y = 0) (hno : x ≤ y) : gm l yX6_bears cX6_bears 5 (some .int) (rmL 4) 0 0 A [.ref (adr 0), .int (nI x), .int (nI y)] (gW G A adr (ccel G adr n S Y L)) (gW G A adr (ccel G adr n S Y L)) (some (.int (-4))) := by
  refine gm_of (own := RX6) (by decide) rfl (Nat.le_of_ble_eq_true rfl) ?_
  intro p e s m below meth c ls F hml hr hlk hnm hK hR hl
  have hx := F.1
  have hb := F.2.1
  replace hl : lv_has ls 5 [(0, .ref (adr 0)), (1, .int (nI x)), (2, .int (nI y))] := hl
  have hn12 := hs.1
  have hn0 := hs.2.1
  refine lv_aload_n hx hb dX6_bears_0 rfl (lv_at hl 0 rfl) ?_
  refine lv_iload_n hx hb dX6_bears_1 rfl (lv_at hl 1 rfl) ?_
  refine gcV (As := [.int (nI x)]) F hK hR hml cv_X6_33 (o := 0) (rfl) rfl rfl (c_X6_findY l G A adr n S Y L x hn0 hn12 (by omega)) ⟨rfl, rfl⟩ ⟨Nat.le_of_ble_eq_true rfl, Nat.le_of_ble_eq_true rfl⟩ rfl rfl hl.1 (Nat.le_of_ble_eq_true rfl) dX6_bears_2 ⟨Nat.zero_le _, Nat.zero_le _⟩ (fun H locs hR => ?_)
  refine lv_astore_n (lv' := [(3, .ref (adr (nk x 0))), (0, .ref (adr 0)), (1, .int (nI x)), (2, .int (nI y))]) hx hb dX6_bears_5 rfl hl (by decide) rfl (fun ls hl => ?_)
  refine lv_aload_n hx hb dX6_bears_6 rfl (lv_at hl 1 rfl) ?_
  refine lv_iload_n hx hb dX6_bears_7 rfl (lv_at hl 3 rfl) ?_
  refine gcV (As := [.int (nI y)]) F hK hR hml cv_X6_33 (o := 0) (rfl) rfl rfl (c_X6_findY l G A adr n S Y L y hn0 hn12 (by omega)) ⟨rfl, rfl⟩ ⟨Nat.le_of_ble_eq_true rfl, Nat.le_of_ble_eq_true rfl⟩ rfl rfl hl.1 (Nat.le_of_ble_eq_true rfl) dX6_bears_8 ⟨Nat.zero_le _, Nat.zero_le _⟩ (fun H locs hR => ?_)
  refine lv_astore (lv' := [(4, .ref (adr (nk y 0))), (3, .ref (adr (nk x 0))), (0, .ref (adr 0)), (1, .int (nI x)), (2, .int (nI y))]) hx hb dX6_bears_11 hl (by decide) rfl (fun ls hl => ?_)
  refine lv_aload_n hx hb dX6_bears_13 rfl (lv_at hl 1 rfl) ?_
  refine lv_ifnull hx hb dX6_bears_14 ?_
  refine lv_aload hx hb dX6_bears_17 (lv_at hl 0 rfl) ?_
  refine lv_ifnonnull (tgt := 25) hx hb dX6_bears_19 (by decide) ?_
  refine lv_aload hx hb dX6_bears_25 (lv_at hl 0 rfl) ?_
  refine kg_1 F hK hR (by omega) fl_X6_37 dX6_bears_27 ?_
  refine lv_if_eq (tgt := 64) hx hb dX6_bears_30 (by decide) (fun c_30 => absurd c_30 (hf)) (fun c_30 => ?_)
  refine lv_aload hx hb dX6_bears_33 (lv_at hl 0 rfl) ?_
  refine kg_0 F hK hR (by omega) fl_X6_45 dX6_bears_35 ?_
  refine lv_aload_n hx hb dX6_bears_38 rfl (lv_at hl 1 rfl) ?_
  refine kg_0 F hK hR (by omega) fl_X6_45 dX6_bears_39 ?_
  refine nv_icmp_ge (by omega) (by omega) hx hb dX6_bears_42 (tgt := 64) (by decide) (fun c_42 => ?_) (fun c_42 => absurd c_42 (by omega))
  refine lv_bipush (v := (-4)) hx hb dX6_bears_64 (by decide) ?_
  exact gr_i F hr hlk hK hR dX6_bears_66 (rfl) (rfl)
set_option maxHeartbeats 4000000 in
set_option maxRecDepth 100000 in
/-- bears: it has it -/
theorem c_X6_bears3 (l : Launch) (G : gw_G) (A : Nat → Prop) (adr : Nat → Nat) (n : Nat) (S Y : Nat → Nat → Int32) (L : Int64) (x y fc : Nat) (hs : sI n S) (hxn : x < n) (hyn : y < n) (hf : ¬ S 1 y = 0) (hyx : y < x) (hfc : S 4 x = nI fc) (h3 : fc ≤ 3) (hno : ¬ sp_isin S x y fc = 0) : gm l yX6_bears cX6_bears 5 (some .int) (rmL 4) 0 0 A [.ref (adr 0), .int (nI x), .int (nI y)] (gW G A adr (ccel G adr n S Y L)) (gW G A adr (ccel G adr n S Y L)) (some (.int (-4))) := by
  refine gm_of (own := RX6) (by decide) rfl (Nat.le_of_ble_eq_true rfl) ?_
  intro p e s m below meth c ls F hml hr hlk hnm hK hR hl
  have hx := F.1
  have hb := F.2.1
  replace hl : lv_has ls 5 [(0, .ref (adr 0)), (1, .int (nI x)), (2, .int (nI y))] := hl
  have hn12 := hs.1
  have hn0 := hs.2.1
  refine lv_aload_n hx hb dX6_bears_0 rfl (lv_at hl 0 rfl) ?_
  refine lv_iload_n hx hb dX6_bears_1 rfl (lv_at hl 1 rfl) ?_
  refine gcV (As := [.int (nI x)]) F hK hR hml cv_X6_33 (o := 0) (rfl) rfl rfl (c_X6_findY l G A adr n S Y L x hn0 hn12 (by omega)) ⟨rfl, rfl⟩ ⟨Nat.le_of_ble_eq_true rfl, Nat.le_of_ble_eq_true rfl⟩ rfl rfl hl.1 (Nat.le_of_ble_eq_true rfl) dX6_bears_2 ⟨Nat.zero_le _, Nat.zero_le _⟩ (fun H locs hR => ?_)
  refine lv_astore_n (lv' := [(3, .ref (adr (nk x 0))), (0, .ref (adr 0)), (1, .int (nI x)), (2, .int (nI y))]) hx hb dX6_bears_5 rfl hl (by decide) rfl (fun ls hl => ?_)
  refine lv_aload_n hx hb dX6_bears_6 rfl (lv_at hl 1 rfl) ?_
  refine lv_iload_n hx hb dX6_bears_7 rfl (lv_at hl 3 rfl) ?_
  refine gcV (As := [.int (nI y)]) F hK hR hml cv_X6_33 (o := 0) (rfl) rfl rfl (c_X6_findY l G A adr n S Y L y hn0 hn12 (by omega)) ⟨rfl, rfl⟩ ⟨Nat.le_of_ble_eq_true rfl, Nat.le_of_ble_eq_true rfl⟩ rfl rfl hl.1 (Nat.le_of_ble_eq_true rfl) dX6_bears_8 ⟨Nat.zero_le _, Nat.zero_le _⟩ (fun H locs hR => ?_)
  refine lv_astore (lv' := [(4, .ref (adr (nk y 0))), (3, .ref (adr (nk x 0))), (0, .ref (adr 0)), (1, .int (nI x)), (2, .int (nI y))]) hx hb dX6_bears_11 hl (by decide) rfl (fun ls hl => ?_)
  refine lv_aload_n hx hb dX6_bears_13 rfl (lv_at hl 1 rfl) ?_
  refine lv_ifnull hx hb dX6_bears_14 ?_
  refine lv_aload hx hb dX6_bears_17 (lv_at hl 0 rfl) ?_
  refine lv_ifnonnull (tgt := 25) hx hb dX6_bears_19 (by decide) ?_
  refine lv_aload hx hb dX6_bears_25 (lv_at hl 0 rfl) ?_
  refine kg_1 F hK hR (by omega) fl_X6_37 dX6_bears_27 ?_
  refine lv_if_eq (tgt := 64) hx hb dX6_bears_30 (by decide) (fun c_30 => absurd c_30 (hf)) (fun c_30 => ?_)
  refine lv_aload hx hb dX6_bears_33 (lv_at hl 0 rfl) ?_
  refine kg_0 F hK hR (by omega) fl_X6_45 dX6_bears_35 ?_
  refine lv_aload_n hx hb dX6_bears_38 rfl (lv_at hl 1 rfl) ?_
  refine kg_0 F hK hR (by omega) fl_X6_45 dX6_bears_39 ?_
  refine nv_icmp_ge (by omega) (by omega) hx hb dX6_bears_42 (tgt := 64) (by decide) (fun c_42 => absurd c_42 (by omega)) (fun c_42 => ?_)
  refine lv_aload_n hx hb dX6_bears_45 rfl (lv_at hl 1 rfl) ?_
  refine lv_aload hx hb dX6_bears_46 (lv_at hl 0 rfl) ?_
  refine kg_0 F hK hR (by omega) fl_X6_45 dX6_bears_48 ?_
  refine gcVi (As := [.int (nI y)]) F hK hR hml cv_X6_48 (o := nk x 0) (ccel_k (by omega) (by decide)) rfl rfl (c_X2_hasFace l G A adr n S Y L x y fc hxn hn12 (by omega) hfc h3 (fun i hi => by obtain ⟨y2, h1, h2, -⟩ := hs.2.2.2.1 x i hxn (by rw [hfc, nI_clamp (by omega)]; exact hi); exact ⟨y2, h1, h2⟩)) ⟨rfl, rfl⟩ ⟨Nat.le_of_ble_eq_true rfl, Nat.le_of_ble_eq_true rfl⟩ rfl rfl hl.1 (Nat.le_of_ble_eq_true rfl) dX6_bears_51 ⟨Nat.zero_le _, Nat.zero_le _⟩ (fun H locs hR => ?_)
  refine lv_if_ne (tgt := 64) hx hb dX6_bears_54 (by decide) (fun c_54 => ?_) (fun c_54 => absurd c_54 (hno))
  refine lv_bipush (v := (-4)) hx hb dX6_bears_64 (by decide) ?_
  exact gr_i F hr hlk hK hR dX6_bears_66 (rfl) (rfl)
set_option maxHeartbeats 4000000 in
set_option maxRecDepth 100000 in
/-- bears: started -/
theorem c_X6_bears4 (l : Launch) (G : gw_G) (A : Nat → Prop) (adr : Nat → Nat) (n : Nat) (S Y : Nat → Nat → Int32) (L : Int64) (x y fc : Nat) (hs : sI n S) (hxn : x < n) (hyn : y < n) (hf : ¬ S 1 y = 0) (hyx : y < x) (hfc : S 4 x = nI fc) (h3 : fc ≤ 3) (hin : sp_isin S x y fc = 0) (hno : ¬ S 12 x = 0) : gm l yX6_bears cX6_bears 5 (some .int) (rmL 4) 0 0 A [.ref (adr 0), .int (nI x), .int (nI y)] (gW G A adr (ccel G adr n S Y L)) (gW G A adr (ccel G adr n S Y L)) (some (.int (-4))) := by
  refine gm_of (own := RX6) (by decide) rfl (Nat.le_of_ble_eq_true rfl) ?_
  intro p e s m below meth c ls F hml hr hlk hnm hK hR hl
  have hx := F.1
  have hb := F.2.1
  replace hl : lv_has ls 5 [(0, .ref (adr 0)), (1, .int (nI x)), (2, .int (nI y))] := hl
  have hn12 := hs.1
  have hn0 := hs.2.1
  refine lv_aload_n hx hb dX6_bears_0 rfl (lv_at hl 0 rfl) ?_
  refine lv_iload_n hx hb dX6_bears_1 rfl (lv_at hl 1 rfl) ?_
  refine gcV (As := [.int (nI x)]) F hK hR hml cv_X6_33 (o := 0) (rfl) rfl rfl (c_X6_findY l G A adr n S Y L x hn0 hn12 (by omega)) ⟨rfl, rfl⟩ ⟨Nat.le_of_ble_eq_true rfl, Nat.le_of_ble_eq_true rfl⟩ rfl rfl hl.1 (Nat.le_of_ble_eq_true rfl) dX6_bears_2 ⟨Nat.zero_le _, Nat.zero_le _⟩ (fun H locs hR => ?_)
  refine lv_astore_n (lv' := [(3, .ref (adr (nk x 0))), (0, .ref (adr 0)), (1, .int (nI x)), (2, .int (nI y))]) hx hb dX6_bears_5 rfl hl (by decide) rfl (fun ls hl => ?_)
  refine lv_aload_n hx hb dX6_bears_6 rfl (lv_at hl 1 rfl) ?_
  refine lv_iload_n hx hb dX6_bears_7 rfl (lv_at hl 3 rfl) ?_
  refine gcV (As := [.int (nI y)]) F hK hR hml cv_X6_33 (o := 0) (rfl) rfl rfl (c_X6_findY l G A adr n S Y L y hn0 hn12 (by omega)) ⟨rfl, rfl⟩ ⟨Nat.le_of_ble_eq_true rfl, Nat.le_of_ble_eq_true rfl⟩ rfl rfl hl.1 (Nat.le_of_ble_eq_true rfl) dX6_bears_8 ⟨Nat.zero_le _, Nat.zero_le _⟩ (fun H locs hR => ?_)
  refine lv_astore (lv' := [(4, .ref (adr (nk y 0))), (3, .ref (adr (nk x 0))), (0, .ref (adr 0)), (1, .int (nI x)), (2, .int (nI y))]) hx hb dX6_bears_11 hl (by decide) rfl (fun ls hl => ?_)
  refine lv_aload_n hx hb dX6_bears_13 rfl (lv_at hl 1 rfl) ?_
  refine lv_ifnull hx hb dX6_bears_14 ?_
  refine lv_aload hx hb dX6_bears_17 (lv_at hl 0 rfl) ?_
  refine lv_ifnonnull (tgt := 25) hx hb dX6_bears_19 (by decide) ?_
  refine lv_aload hx hb dX6_bears_25 (lv_at hl 0 rfl) ?_
  refine kg_1 F hK hR (by omega) fl_X6_37 dX6_bears_27 ?_
  refine lv_if_eq (tgt := 64) hx hb dX6_bears_30 (by decide) (fun c_30 => absurd c_30 (hf)) (fun c_30 => ?_)
  refine lv_aload hx hb dX6_bears_33 (lv_at hl 0 rfl) ?_
  refine kg_0 F hK hR (by omega) fl_X6_45 dX6_bears_35 ?_
  refine lv_aload_n hx hb dX6_bears_38 rfl (lv_at hl 1 rfl) ?_
  refine kg_0 F hK hR (by omega) fl_X6_45 dX6_bears_39 ?_
  refine nv_icmp_ge (by omega) (by omega) hx hb dX6_bears_42 (tgt := 64) (by decide) (fun c_42 => absurd c_42 (by omega)) (fun c_42 => ?_)
  refine lv_aload_n hx hb dX6_bears_45 rfl (lv_at hl 1 rfl) ?_
  refine lv_aload hx hb dX6_bears_46 (lv_at hl 0 rfl) ?_
  refine kg_0 F hK hR (by omega) fl_X6_45 dX6_bears_48 ?_
  refine gcVi (As := [.int (nI y)]) F hK hR hml cv_X6_48 (o := nk x 0) (ccel_k (by omega) (by decide)) rfl rfl (c_X2_hasFace l G A adr n S Y L x y fc hxn hn12 (by omega) hfc h3 (fun i hi => by obtain ⟨y2, h1, h2, -⟩ := hs.2.2.2.1 x i hxn (by rw [hfc, nI_clamp (by omega)]; exact hi); exact ⟨y2, h1, h2⟩)) ⟨rfl, rfl⟩ ⟨Nat.le_of_ble_eq_true rfl, Nat.le_of_ble_eq_true rfl⟩ rfl rfl hl.1 (Nat.le_of_ble_eq_true rfl) dX6_bears_51 ⟨Nat.zero_le _, Nat.zero_le _⟩ (fun H locs hR => ?_)
  refine lv_if_ne (tgt := 64) hx hb dX6_bears_54 (by decide) (fun c_54 => absurd c_54 (fun q => q hin)) (fun c_54 => ?_)
  refine lv_aload_n hx hb dX6_bears_57 rfl (lv_at hl 1 rfl) ?_
  refine kg_11 F hK hR (by omega) fl_X6_52 dX6_bears_58 ?_
  refine lv_if_eq (tgt := 67) hx hb dX6_bears_61 (by decide) (fun c_61 => absurd c_61 (hno)) (fun c_61 => ?_)
  refine lv_bipush (v := (-4)) hx hb dX6_bears_64 (by decide) ?_
  exact gr_i F hr hlk hK hR dX6_bears_66 (rfl) (rfl)
set_option maxHeartbeats 4000000 in
set_option maxRecDepth 100000 in
/-- bears: no room -/
theorem c_X6_bears5 (l : Launch) (G : gw_G) (A : Nat → Prop) (adr : Nat → Nat) (n : Nat) (S Y : Nat → Nat → Int32) (L : Int64) (x y fc : Nat) (hs : sI n S) (hxn : x < n) (hyn : y < n) (hf : ¬ S 1 y = 0) (hyx : y < x) (hfc : S 4 x = nI fc) (h3 : fc ≤ 3) (hin : sp_isin S x y fc = 0) (hst : S 12 x = 0) (hno : fc = 3) : gm l yX6_bears cX6_bears 5 (some .int) (rmL 4) 0 0 A [.ref (adr 0), .int (nI x), .int (nI y)] (gW G A adr (ccel G adr n S Y L)) (gW G A adr (ccel G adr n S Y L)) (some (.int (-5))) := by
  refine gm_of (own := RX6) (by decide) rfl (Nat.le_of_ble_eq_true rfl) ?_
  intro p e s m below meth c ls F hml hr hlk hnm hK hR hl
  have hx := F.1
  have hb := F.2.1
  replace hl : lv_has ls 5 [(0, .ref (adr 0)), (1, .int (nI x)), (2, .int (nI y))] := hl
  have hn12 := hs.1
  have hn0 := hs.2.1
  refine lv_aload_n hx hb dX6_bears_0 rfl (lv_at hl 0 rfl) ?_
  refine lv_iload_n hx hb dX6_bears_1 rfl (lv_at hl 1 rfl) ?_
  refine gcV (As := [.int (nI x)]) F hK hR hml cv_X6_33 (o := 0) (rfl) rfl rfl (c_X6_findY l G A adr n S Y L x hn0 hn12 (by omega)) ⟨rfl, rfl⟩ ⟨Nat.le_of_ble_eq_true rfl, Nat.le_of_ble_eq_true rfl⟩ rfl rfl hl.1 (Nat.le_of_ble_eq_true rfl) dX6_bears_2 ⟨Nat.zero_le _, Nat.zero_le _⟩ (fun H locs hR => ?_)
  refine lv_astore_n (lv' := [(3, .ref (adr (nk x 0))), (0, .ref (adr 0)), (1, .int (nI x)), (2, .int (nI y))]) hx hb dX6_bears_5 rfl hl (by decide) rfl (fun ls hl => ?_)
  refine lv_aload_n hx hb dX6_bears_6 rfl (lv_at hl 1 rfl) ?_
  refine lv_iload_n hx hb dX6_bears_7 rfl (lv_at hl 3 rfl) ?_
  refine gcV (As := [.int (nI y)]) F hK hR hml cv_X6_33 (o := 0) (rfl) rfl rfl (c_X6_findY l G A adr n S Y L y hn0 hn12 (by omega)) ⟨rfl, rfl⟩ ⟨Nat.le_of_ble_eq_true rfl, Nat.le_of_ble_eq_true rfl⟩ rfl rfl hl.1 (Nat.le_of_ble_eq_true rfl) dX6_bears_8 ⟨Nat.zero_le _, Nat.zero_le _⟩ (fun H locs hR => ?_)
  refine lv_astore (lv' := [(4, .ref (adr (nk y 0))), (3, .ref (adr (nk x 0))), (0, .ref (adr 0)), (1, .int (nI x)), (2, .int (nI y))]) hx hb dX6_bears_11 hl (by decide) rfl (fun ls hl => ?_)
  refine lv_aload_n hx hb dX6_bears_13 rfl (lv_at hl 1 rfl) ?_
  refine lv_ifnull hx hb dX6_bears_14 ?_
  refine lv_aload hx hb dX6_bears_17 (lv_at hl 0 rfl) ?_
  refine lv_ifnonnull (tgt := 25) hx hb dX6_bears_19 (by decide) ?_
  refine lv_aload hx hb dX6_bears_25 (lv_at hl 0 rfl) ?_
  refine kg_1 F hK hR (by omega) fl_X6_37 dX6_bears_27 ?_
  refine lv_if_eq (tgt := 64) hx hb dX6_bears_30 (by decide) (fun c_30 => absurd c_30 (hf)) (fun c_30 => ?_)
  refine lv_aload hx hb dX6_bears_33 (lv_at hl 0 rfl) ?_
  refine kg_0 F hK hR (by omega) fl_X6_45 dX6_bears_35 ?_
  refine lv_aload_n hx hb dX6_bears_38 rfl (lv_at hl 1 rfl) ?_
  refine kg_0 F hK hR (by omega) fl_X6_45 dX6_bears_39 ?_
  refine nv_icmp_ge (by omega) (by omega) hx hb dX6_bears_42 (tgt := 64) (by decide) (fun c_42 => absurd c_42 (by omega)) (fun c_42 => ?_)
  refine lv_aload_n hx hb dX6_bears_45 rfl (lv_at hl 1 rfl) ?_
  refine lv_aload hx hb dX6_bears_46 (lv_at hl 0 rfl) ?_
  refine kg_0 F hK hR (by omega) fl_X6_45 dX6_bears_48 ?_
  refine gcVi (As := [.int (nI y)]) F hK hR hml cv_X6_48 (o := nk x 0) (ccel_k (by omega) (by decide)) rfl rfl (c_X2_hasFace l G A adr n S Y L x y fc hxn hn12 (by omega) hfc h3 (fun i hi => by obtain ⟨y2, h1, h2, -⟩ := hs.2.2.2.1 x i hxn (by rw [hfc, nI_clamp (by omega)]; exact hi); exact ⟨y2, h1, h2⟩)) ⟨rfl, rfl⟩ ⟨Nat.le_of_ble_eq_true rfl, Nat.le_of_ble_eq_true rfl⟩ rfl rfl hl.1 (Nat.le_of_ble_eq_true rfl) dX6_bears_51 ⟨Nat.zero_le _, Nat.zero_le _⟩ (fun H locs hR => ?_)
  refine lv_if_ne (tgt := 64) hx hb dX6_bears_54 (by decide) (fun c_54 => absurd c_54 (fun q => q hin)) (fun c_54 => ?_)
  refine lv_aload_n hx hb dX6_bears_57 rfl (lv_at hl 1 rfl) ?_
  refine kg_11 F hK hR (by omega) fl_X6_52 dX6_bears_58 ?_
  refine lv_if_eq (tgt := 67) hx hb dX6_bears_61 (by decide) (fun c_61 => ?_) (fun c_61 => absurd hst c_61)
  refine lv_aload_n hx hb dX6_bears_67 rfl (lv_at hl 1 rfl) ?_
  refine lv_aload hx hb dX6_bears_68 (lv_at hl 0 rfl) ?_
  refine gcVi (As := [.ref (adr (nk y 0))]) F hK hR hml cv_X6_55 (o := nk x 0) (ccel_k (by omega) (by decide)) rfl rfl (c_X2_addFaceF l G A adr n S Y L x y hxn (by rw [hfc, hno])) ⟨rfl, rfl⟩ ⟨Nat.le_of_ble_eq_true rfl, Nat.le_of_ble_eq_true rfl⟩ rfl rfl hl.1 (Nat.le_of_ble_eq_true rfl) dX6_bears_70 ⟨Nat.zero_le _, Nat.zero_le _⟩ (fun H locs hR => ?_)
  exact gr_i F hr hlk hK hR dX6_bears_73 (rfl) (rfl)
set_option maxHeartbeats 4000000 in
set_option maxRecDepth 100000 in
/-- bears -/
theorem c_X6_bears6 (l : Launch) (G : gw_G) (A : Nat → Prop) (adr : Nat → Nat) (n : Nat) (S Y : Nat → Nat → Int32) (L : Int64) (x y fc : Nat) (hs : sI n S) (hxn : x < n) (hyn : y < n) (hf : ¬ S 1 y = 0) (hyx : y < x) (hfc : S 4 x = nI fc) (h3 : fc ≤ 3) (hin : sp_isin S x y fc = 0) (hst : S 12 x = 0) (hlt : fc < 3) : gm l yX6_bears cX6_bears 5 (some .int) (rmL 4) 0 0 A [.ref (adr 0), .int (nI x), .int (nI y)] (gW G A adr (ccel G adr n S Y L)) (gW G A adr (ccel G adr n (m2 (m2 S 5 (3 * x + fc) (nI y)) 4 x (nI (fc + 1))) Y L)) (some (.int (nI (fc + 1)))) := by
  refine gm_of (own := RX6) (by decide) rfl (Nat.le_of_ble_eq_true rfl) ?_
  intro p e s m below meth c ls F hml hr hlk hnm hK hR hl
  have hx := F.1
  have hb := F.2.1
  replace hl : lv_has ls 5 [(0, .ref (adr 0)), (1, .int (nI x)), (2, .int (nI y))] := hl
  have hn12 := hs.1
  have hn0 := hs.2.1
  refine lv_aload_n hx hb dX6_bears_0 rfl (lv_at hl 0 rfl) ?_
  refine lv_iload_n hx hb dX6_bears_1 rfl (lv_at hl 1 rfl) ?_
  refine gcV (As := [.int (nI x)]) F hK hR hml cv_X6_33 (o := 0) (rfl) rfl rfl (c_X6_findY l G A adr n S Y L x hn0 hn12 (by omega)) ⟨rfl, rfl⟩ ⟨Nat.le_of_ble_eq_true rfl, Nat.le_of_ble_eq_true rfl⟩ rfl rfl hl.1 (Nat.le_of_ble_eq_true rfl) dX6_bears_2 ⟨Nat.zero_le _, Nat.zero_le _⟩ (fun H locs hR => ?_)
  refine lv_astore_n (lv' := [(3, .ref (adr (nk x 0))), (0, .ref (adr 0)), (1, .int (nI x)), (2, .int (nI y))]) hx hb dX6_bears_5 rfl hl (by decide) rfl (fun ls hl => ?_)
  refine lv_aload_n hx hb dX6_bears_6 rfl (lv_at hl 1 rfl) ?_
  refine lv_iload_n hx hb dX6_bears_7 rfl (lv_at hl 3 rfl) ?_
  refine gcV (As := [.int (nI y)]) F hK hR hml cv_X6_33 (o := 0) (rfl) rfl rfl (c_X6_findY l G A adr n S Y L y hn0 hn12 (by omega)) ⟨rfl, rfl⟩ ⟨Nat.le_of_ble_eq_true rfl, Nat.le_of_ble_eq_true rfl⟩ rfl rfl hl.1 (Nat.le_of_ble_eq_true rfl) dX6_bears_8 ⟨Nat.zero_le _, Nat.zero_le _⟩ (fun H locs hR => ?_)
  refine lv_astore (lv' := [(4, .ref (adr (nk y 0))), (3, .ref (adr (nk x 0))), (0, .ref (adr 0)), (1, .int (nI x)), (2, .int (nI y))]) hx hb dX6_bears_11 hl (by decide) rfl (fun ls hl => ?_)
  refine lv_aload_n hx hb dX6_bears_13 rfl (lv_at hl 1 rfl) ?_
  refine lv_ifnull hx hb dX6_bears_14 ?_
  refine lv_aload hx hb dX6_bears_17 (lv_at hl 0 rfl) ?_
  refine lv_ifnonnull (tgt := 25) hx hb dX6_bears_19 (by decide) ?_
  refine lv_aload hx hb dX6_bears_25 (lv_at hl 0 rfl) ?_
  refine kg_1 F hK hR (by omega) fl_X6_37 dX6_bears_27 ?_
  refine lv_if_eq (tgt := 64) hx hb dX6_bears_30 (by decide) (fun c_30 => absurd c_30 (hf)) (fun c_30 => ?_)
  refine lv_aload hx hb dX6_bears_33 (lv_at hl 0 rfl) ?_
  refine kg_0 F hK hR (by omega) fl_X6_45 dX6_bears_35 ?_
  refine lv_aload_n hx hb dX6_bears_38 rfl (lv_at hl 1 rfl) ?_
  refine kg_0 F hK hR (by omega) fl_X6_45 dX6_bears_39 ?_
  refine nv_icmp_ge (by omega) (by omega) hx hb dX6_bears_42 (tgt := 64) (by decide) (fun c_42 => absurd c_42 (by omega)) (fun c_42 => ?_)
  refine lv_aload_n hx hb dX6_bears_45 rfl (lv_at hl 1 rfl) ?_
  refine lv_aload hx hb dX6_bears_46 (lv_at hl 0 rfl) ?_
  refine kg_0 F hK hR (by omega) fl_X6_45 dX6_bears_48 ?_
  refine gcVi (As := [.int (nI y)]) F hK hR hml cv_X6_48 (o := nk x 0) (ccel_k (by omega) (by decide)) rfl rfl (c_X2_hasFace l G A adr n S Y L x y fc hxn hn12 (by omega) hfc h3 (fun i hi => by obtain ⟨y2, h1, h2, -⟩ := hs.2.2.2.1 x i hxn (by rw [hfc, nI_clamp (by omega)]; exact hi); exact ⟨y2, h1, h2⟩)) ⟨rfl, rfl⟩ ⟨Nat.le_of_ble_eq_true rfl, Nat.le_of_ble_eq_true rfl⟩ rfl rfl hl.1 (Nat.le_of_ble_eq_true rfl) dX6_bears_51 ⟨Nat.zero_le _, Nat.zero_le _⟩ (fun H locs hR => ?_)
  refine lv_if_ne (tgt := 64) hx hb dX6_bears_54 (by decide) (fun c_54 => absurd c_54 (fun q => q hin)) (fun c_54 => ?_)
  refine lv_aload_n hx hb dX6_bears_57 rfl (lv_at hl 1 rfl) ?_
  refine kg_11 F hK hR (by omega) fl_X6_52 dX6_bears_58 ?_
  refine lv_if_eq (tgt := 67) hx hb dX6_bears_61 (by decide) (fun c_61 => ?_) (fun c_61 => absurd hst c_61)
  refine lv_aload_n hx hb dX6_bears_67 rfl (lv_at hl 1 rfl) ?_
  refine lv_aload hx hb dX6_bears_68 (lv_at hl 0 rfl) ?_
  refine gcVi (As := [.ref (adr (nk y 0))]) F hK hR hml cv_X6_55 (o := nk x 0) (ccel_k (by omega) (by decide)) rfl rfl (c_X2_addFaceK l G A adr n S Y L x y fc hs hxn hyn hfc hlt) ⟨rfl, rfl⟩ ⟨Nat.le_of_ble_eq_true rfl, Nat.le_of_ble_eq_true rfl⟩ rfl rfl hl.1 (Nat.le_of_ble_eq_true rfl) dX6_bears_70 ⟨Nat.zero_le _, Nat.zero_le _⟩ (fun H locs hR => ?_)
  exact gr_i F hr hlk hK hR dX6_bears_73 (rfl) (rfl)
