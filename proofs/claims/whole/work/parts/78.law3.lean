/-! THE LAW, 3: its loop; from its entry -/
set_option maxHeartbeats 8000000 in
set_option maxRecDepth 100000 in
theorem law_loop {p : Program} {l : Launch} {e : Env} {s : State} {m : MethodId} {below : List Frame} {meth : Method} {c : Code} {b L : Nat} {xs : Nat → Int32} {G : gw_G} {adr : Nat → Nat} (hL : L ≤ 3584) (C0 : lw_At p s m meth c b L xs) (hK : gw_K G s) : ∀ (N i n : Nat) (S Y : Nat → Nat → Int32) (Lq : Int64) (X : Nat → Nat → Int32) (ad : Nat → Nat) (H : Heap) (locs : List Loc) (ls : Array Slot), N ≤ 600 → i ≤ 4000 → L < i + 7 * (N + 1) → iv n S Y X → lS G s.heap ad adr n S Y Lq S X H → va_S (fun q : Nat => s.heap.size ≤ q) s.heap H locs → lv_has ls 4 [(0, .ref b), (1, .ref (ad 0)), (2, .ref (adr 0)), (3, .int (nI i))] → W p l e room_1 s m #[Value.ref b] below meth c H locs (600000 - 14 * N) (7302250 - 99 * N) (lw_Z below #[Value.ref b] s) (F0 m 18 ls []) := by
  obtain ⟨hx, hb, hr, hml, hown, hts, hX, hbl, hlocks, hgv⟩ := id C0
  have hbA : ¬ (fun q : Nat => s.heap.size ≤ q) b := Nat.not_le.mpr hbl
  have head : ∀ (N i n : Nat) (S Y : Nat → Nat → Int32) (Lq : Int64) (X : Nat → Nat → Int32) (ad : Nat → Nat) (H : Heap) (locs : List Loc) (ls : Array Slot), i ≤ 4000 → va_S (fun q : Nat => s.heap.size ≤ q) s.heap H locs → lv_has ls 4 [(0, .ref b), (1, .ref (ad 0)), (2, .ref (adr 0)), (3, .int (nI i))] → (i + 7 ≤ L → W p l e room_1 s m #[Value.ref b] below meth c H locs (600000 - 14 * N) (7302250 - 99 * N) (lw_Z below #[Value.ref b] s) (F0 m 27 ls [])) → W p l e room_1 s m #[Value.ref b] below meth c H locs (600000 - 14 * N) (7302250 - 99 * N) (lw_Z below #[Value.ref b] s) (F0 m 18 ls []) := by
    intro N i n S Y Lq X ad H locs ls hi hS hl kk
    refine lv_iload_n hx hb dL_law_18 rfl (lv_at hl 3 rfl) ?_
    refine lv_aload_n hx hb dL_law_19 rfl (lv_at hl 0 rfl) ?_
    refine va_slen hx hb hX hbl hbA hS dL_law_20 ?_
    refine lv_bipush (v := nI 7) hx hb dL_law_21 (by decide) ?_
    refine lv_isub hx hb dL_law_23 ?_
    have e1 : (Int32.ofNat L - nI 7).toInt = (L : Int) - 7 := pk_sub_toInt (a := L) (b := 7) (by omega) (by omega)
    have e2 : (nI i).toInt = i := nI_toInt (by omega)
    refine lv_icmp_gt (tgt := 624) hx hb dL_law_24 (by decide) (fun _ => ?_) (fun q => kk ?_)
    · refine lv_iconst (v := 1) hx hb dL_law_624 (by decide) ?_
      refine va_forget (fun q hq => hS.2.2 q hq) ?_
      refine W.widen (k := 600000) (n := 7302250) (by omega) (by omega) ?_
      exact lw_ret hx hb hr hlocks dL_law_625
    · rw [Int32.lt_iff_toInt_lt, e1, e2] at q
      omega
  intro N
  induction N with
  | zero =>
    intro i n S Y Lq X ad H locs ls hN hi hLi hiv hlS hS hl
    exact head 0 i n S Y Lq X ad H locs ls hi hS hl (fun h => absurd h (by omega))
  | succ N ih =>
    intro i n S Y Lq X ad H locs ls hN hi hLi hiv hlS hS hl
    refine head (N + 1) i n S Y Lq X ad H locs ls hi hS hl (fun h7 => ?_)
    refine lv_aload_n hx hb dL_law_27 rfl (lv_at hl 0 rfl) ?_
    refine lv_iload_n hx hb dL_law_28 rfl (lv_at hl 3 rfl) ?_
    refine va_sld hx hb hX hbl hbA hS (vp_in_nI (by omega) (by omega)) dL_law_29 ?_
    refine lv_bipush (v := nI 15) hx hb dL_law_30 (by decide) ?_
    refine lv_iand hx hb dL_law_32 ?_
    have nx : lNx p l e s m below meth c b G adr (ad 0) (600000 - 14 * (N + 1) + 14) (7302250 - 99 * (N + 1) + 99) ls := by
      intro n2 S2 Y2 L2 X2 ad2 H2 locs2 hiv2 hlS2 hS2 e0
      refine lv_iinc (v := nI (i + 7)) (lv' := [(3, .int (nI (i + 7))), (0, .ref b), (1, .ref (ad 0)), (2, .ref (adr 0))]) hx hb dL_law_618 hl (k := 3) rfl (nI_add i 7) (by decide) rfl (fun ls hl => ?_)
      refine lv_goto (tgt := 18) hx hb dL_law_621 (by decide) ?_
      rw [show 600000 - 14 * (N + 1) + 14 = 600000 - 14 * N by omega, show 7302250 - 99 * (N + 1) + 99 = 7302250 - 99 * N by omega]
      have hl2 : lv_has ls 4 [(0, .ref b), (1, .ref (ad2 0)), (2, .ref (adr 0)), (3, .int (nI (i + 7)))] := by rw [e0]; exact lv_sub hl [1, 2, 3, 0] rfl
      exact ih (i + 7) n2 S2 Y2 L2 X2 ad2 H2 locs2 ls (by omega) (by omega) (by omega) hiv2 hlS2 hS2 hl2
    have hf : 600000 - 14 * (N + 1) + 14 ≤ room_1.cells ∧ 7302250 - 99 * (N + 1) + 99 ≤ room_1.slots := ⟨by show _ ≤ 600000; omega, by show _ ≤ 7302250; omega⟩
    obtain ⟨j, hj, he⟩ := pk_andE (xs (nI i).toNatClampNeg) (m := nI 15) 4 (by decide)
    rw [he]
    clear he
    match j, hj with
    | 0, _ => exact lv_tableIn (x := nI 0) (tgt := 112) hx hb dL_law_33 (by decide) (by decide) (off := 79) (by decide) (by decide) (law_made hL C0 hK h7 hiv hlS hS hl hf nx)
    | 1, _ => exact lv_tableIn (x := nI 1) (tgt := 135) hx hb dL_law_33 (by decide) (by decide) (off := 102) (by decide) (by decide) (law_face hL C0 hK h7 hiv hlS hS hl hf nx)
    | 2, _ => exact lv_tableIn (x := nI 2) (tgt := 174) hx hb dL_law_33 (by decide) (by decide) (off := 141) (by decide) (by decide) (law_bears hL C0 hK h7 hiv hlS hS hl hf nx)
    | 3, _ => exact lv_tableIn (x := nI 3) (tgt := 207) hx hb dL_law_33 (by decide) (by decide) (off := 174) (by decide) (by decide) (law_constant hL C0 hK h7 hiv hlS hS hl hf nx)
    | 4, _ => exact lv_tableIn (x := nI 4) (tgt := 250) hx hb dL_law_33 (by decide) (by decide) (off := 217) (by decide) (by decide) (law_act hL C0 hK h7 hiv hlS hS hl hf nx)
    | 5, _ => exact lv_tableIn (x := nI 5) (tgt := 325) hx hb dL_law_33 (by decide) (by decide) (off := 292) (by decide) (by decide) (law_run hL C0 hK h7 hiv hlS hS hl hf nx)
    | 6, _ => exact lv_tableIn (x := nI 6) (tgt := 358) hx hb dL_law_33 (by decide) (by decide) (off := 325) (by decide) (by decide) (law_cause hL C0 hK h7 hiv hlS hS hl hf nx)
    | 7, _ => exact lv_tableIn (x := nI 7) (tgt := 371) hx hb dL_law_33 (by decide) (by decide) (off := 338) (by decide) (by decide) (law_count hL C0 hK h7 hiv hlS hS hl hf nx)
    | 8, _ => exact lv_tableIn (x := nI 8) (tgt := 394) hx hb dL_law_33 (by decide) (by decide) (off := 361) (by decide) (by decide) (law_event hL C0 hK h7 hiv hlS hS hl hf nx)
    | 9, _ => exact lv_tableIn (x := nI 9) (tgt := 427) hx hb dL_law_33 (by decide) (by decide) (off := 394) (by decide) (by decide) (law_state hL C0 hK h7 hiv hlS hS hl hf nx)
    | 10, _ => exact lv_tableIn (x := nI 10) (tgt := 450) hx hb dL_law_33 (by decide) (by decide) (off := 417) (by decide) (by decide) (law_field hL C0 hK h7 hiv hlS hS hl hf nx)
    | 11, _ => exact lv_tableIn (x := nI 11) (tgt := 483) hx hb dL_law_33 (by decide) (by decide) (off := 450) (by decide) (by decide) (law_row hL C0 hK h7 hiv hlS hS hl hf nx)
    | 12, _ => exact lv_tableIn (x := nI 12) (tgt := 506) hx hb dL_law_33 (by decide) (by decide) (off := 473) (by decide) (by decide) (law_item hL C0 hK h7 hiv hlS hS hl hf nx)
    | 13, _ => exact lv_tableIn (x := nI 13) (tgt := 539) hx hb dL_law_33 (by decide) (by decide) (off := 506) (by decide) (by decide) (law_again hL C0 hK h7 hiv hlS hS hl hf nx)
    | 14, _ => exact lv_tableIn (x := nI 14) (tgt := 552) hx hb dL_law_33 (by decide) (by decide) (off := 519) (by decide) (by decide) (law_may hL C0 hK h7 hiv hlS hS hl hf nx)
    | 15, _ => exact lv_tableIn (x := nI 15) (tgt := 585) hx hb dL_law_33 (by decide) (by decide) (off := 552) (by decide) (by decide) (law_ahead hL C0 hK h7 hiv hlS hS hl hf nx)
    | j + 16, hj => exact absurd hj (by omega)
theorem gB_0 {G : gw_G} {A : Nat → Prop} {w : Nat} {adr : Nat → Nat} {H : Heap} : gw_B G A (bN 0 w [] adr) (bC 0 w [] (fun _ => none)) H H [] := by
  have e : ∀ k, bC 0 w [] (fun _ => none) k = none := fun k => by
    show bl 0 w (lkf []) (fun _ => none) k = none
    unfold bl
    split <;> rfl
  exact ⟨fun n x h => (by rw [e] at h; cases h), ⟨fun n h => absurd (e n) h, fun n k h => absurd (e n) h⟩, va_S.rf⟩
set_option maxHeartbeats 8000000 in
set_option maxRecDepth 100000 in
/-- THE LAW, from its entry -/
theorem whole_start {p : Program} {e : Env} {s : State} {m : MethodId} {below : List Frame} {meth : Method} {c : Code} (l : Launch) {b L : Nat} {xs : Nat → Int32} (hL : L ≤ 3584) (C0 : lw_At p s m meth c b L xs) : W p l e room_1 s m #[Value.ref b] below meth c s.heap [] 0 0 (lw_Z below #[Value.ref b] s) (entryFrame m ([Value.ref b] : List Value).toArray 4) := by
  obtain ⟨hx, hb, hr, hml, hown, hts, hX, hbl, hlocks, hgv⟩ := id C0
  have F : gw_F p m c code s #[Value.ref b] RL := ⟨hx, hb, hown, fun w hw => hts w (gWL w hw)⟩
  obtain ⟨G, hK⟩ := law_K hts
  have hN := law_N hts
  have hl := lv_entry ([.ref b]) (n := 4) (Nat.le_of_ble_eq_true rfl)
  rw [lg_entry_eq]
  generalize (lg_sl ([.ref b]) ++ List.replicate (4 - (lg_sl ([.ref b])).length) Slot.unset).toArray = ls at hl ⊢
  replace hl : lv_has ls 4 [(0, .ref b)] := hl
  refine gb_new (A := fun q : Nat => s.heap.size ≤ q) (w := 8) (adr := fun _ => 0) (cel := fun _ => none) (M := []) (L := []) F hK (fun _ h => h) gB_0 0 6 (by decide) rfl rfl inX6 tyX6 tyX6_ok kl_L_7 ia_X6 in_X6 (fs := [.null, .int 0, .null, .null]) (by decide +kernel) (Nat.le_of_ble_eq_true rfl) (Nat.le_of_ble_eq_true rfl) (L' := [(0, .inr (6, [.null, .int 0, .null, .null]))]) rfl dL_law_0 (fun q0 H hB => ?_)
  refine lv_dup hx hb dL_law_3 rfl ?_
  refine gcIg (o := q0) (As := []) (rest := [.ref q0]) F hK (fun _ h => h) hB hml ci_L_9 (fun _ => gWn.blind) (fun U hU hW => ⟨hU, gNw.warm hW hN⟩) (c_X6_init l G (fun q : Nat => s.heap.size ≤ q) (fun _ => 0) (fun _ => none) q0) ⟨rfl, rfl⟩ ⟨Nat.le_of_ble_eq_true rfl, Nat.le_of_ble_eq_true rfl⟩ rfl rfl hl.1 (Nat.le_of_ble_eq_true rfl) dL_law_4 ⟨Nat.le_of_ble_eq_true rfl, Nat.le_of_ble_eq_true rfl⟩ (fun U H2 locs2 hU hp hS2 => ?_)
  obtain ⟨q1, q2, q3, q4, q5, q6, q7, hW⟩ := hp
  rw [ccel0] at hW
  have hP2 := hW.1
  rw [hU] at hP2
  have hD2 := hW.2.1
  have e0 : bN 0 8 [(7, q7), (6, q6), (5, q5), (4, q4), (3, q3), (2, q2), (1, q1), (0, q0)] (fun _ => 0) 0 = q0 := rfl
  generalize bN 0 8 [(7, q7), (6, q6), (5, q5), (4, q4), (3, q3), (2, q2), (1, q1), (0, q0)] (fun _ => 0) = ad at hP2 hD2 e0
  refine va_forget (fun q hq => hS2.2.2 q hq) ?_
  refine lv_astore_n (lv' := [(1, .ref q0), (0, .ref b)]) hx hb dL_law_7 rfl hl (by decide) rfl (fun ls hl => ?_)
  refine gb_new (A := fun q : Nat => H2.size ≤ q) (H0 := H2) (w := 40) (adr := fun _ => 0) (cel := fun _ => none) (M := []) (L := []) F hK (fun _ h => h) gB_0 0 7 (by decide) rfl rfl inX7 tyX7 tyX7_ok kl_L_10 ia_X7 in_X7 (fs := [.int 0, .null, .null, .null, .null, .null, .null, .null, .null, .null, .null, .null, .null, .int 0, .null, .null, .int 0, .int 0, .int 0, .int 0, .int 0, .int 0, .int 0, .null, .null, .null, .null, .null, .null, .null, .null, .int 0, .int 0, .null]) (by decide +kernel) (Nat.le_of_ble_eq_true rfl) (Nat.le_of_ble_eq_true rfl) (L' := [(0, .inr (7, [.int 0, .null, .null, .null, .null, .null, .null, .null, .null, .null, .null, .null, .null, .int 0, .null, .null, .int 0, .int 0, .int 0, .int 0, .int 0, .int 0, .int 0, .null, .null, .null, .null, .null, .null, .null, .null, .int 0, .int 0, .null]))]) rfl dL_law_8 (fun r0 H3 hB3 => ?_)
  refine lv_dup hx hb dL_law_11 rfl ?_
  refine gcIg (o := r0) (As := []) (rest := [.ref r0]) F hK (fun _ h => h) hB3 hml ci_L_12 (fun _ => gWa.blind) (fun U hU hW => hU) (c_X7_init l G (fun q : Nat => H2.size ≤ q) (fun _ => 0) (fun _ => none) r0) ⟨rfl, rfl⟩ ⟨Nat.le_of_ble_eq_true rfl, Nat.le_of_ble_eq_true rfl⟩ rfl rfl hl.1 (Nat.le_of_ble_eq_true rfl) dL_law_12 ⟨Nat.le_of_ble_eq_true rfl, Nat.le_of_ble_eq_true rfl⟩ (fun U4 H4 locs4 hU4 hp4 hS4 => ?_)
  obtain ⟨p1, p2, p3, p4, p5, p6, p7, p8, p9, p10, p11, p12, p14, p15, p23, p24, p25, p26, p27, p28, p29, p30, p33, hW4⟩ := hp4
  rw [rcel0] at hW4
  have hP4 := hW4.1
  rw [hU4] at hP4
  have hD4 := hW4.2.1
  have f0 : bN 0 40 [(33, p33), (30, p30), (29, p29), (28, p28), (27, p27), (26, p26), (25, p25), (24, p24), (23, p23), (15, p15), (14, p14), (12, p12), (11, p11), (10, p10), (9, p9), (8, p8), (7, p7), (6, p6), (5, p5), (4, p4), (3, p3), (2, p2), (1, p1), (0, r0)] (fun _ => 0) 0 = r0 := rfl
  generalize bN 0 40 [(33, p33), (30, p30), (29, p29), (28, p28), (27, p27), (26, p26), (25, p25), (24, p24), (23, p23), (15, p15), (14, p14), (12, p12), (11, p11), (10, p10), (9, p9), (8, p8), (7, p7), (6, p6), (5, p5), (4, p4), (3, p3), (2, p2), (1, p1), (0, r0)] (fun _ => 0) = adr at hP4 hD4 f0
  refine va_forget (fun q hq => Nat.le_trans hS2.1 (hS4.2.2 q hq)) ?_
  refine lv_astore_n (lv' := [(2, .ref r0), (1, .ref q0), (0, .ref b)]) hx hb dL_law_15 rfl hl (by decide) rfl (fun ls hl => ?_)
  refine lv_iconst (v := nI 0) hx hb dL_law_16 (by decide) ?_
  refine lv_istore_n (lv' := [(3, .int (nI 0)), (2, .ref r0), (1, .ref q0), (0, .ref b)]) hx hb dL_law_17 rfl hl (by decide) rfl (fun ls hl => ?_)
  refine W.widen (k := 600000 - 14 * 599) (n := 7302250 - 99 * 599) (by omega) (by omega) ?_
  have hr2 : ∀ k, rdm k → H2.size ≤ adr k ∧ adr k < H4.size := fun k hk => by
    have hne := rdm_rcel (G := G) (adr := adr) (S := S00) (X := X00) hk
    refine ⟨hD4.1 k hne, ?_⟩
    cases hc : rcel G adr S00 X00 k with
    | none => exact absurd hc hne
    | some x => exact (hP4 k x hc).lt
  have hlS : lS G s.heap ad adr 0 S00 Y00 0 S00 X00 H4 := by
    refine ⟨fun k x hx => (hP2 k x hx).kept (hS4.2.1 _ (hP2 k x hx).lt (fun q => ?_)), ⟨fun k hk => ⟨hD2.1 k hk, ?_⟩, hD2.2⟩, hP4, ⟨fun k hk => ⟨k, rcel_rdm hk, rfl⟩, hD4.2⟩, fun k hk => ⟨Nat.le_trans hS2.1 (hr2 k hk).1, (hr2 k hk).2⟩⟩
    · have := (hP2 k x hx).lt
      exact absurd q (Nat.not_le.mpr this)
    · rintro ⟨j, hj, ej⟩
      have h1 := (hr2 j hj).1
      cases hc : ccel G ad 0 S00 Y00 0 k with
      | none => exact hk hc
      | some x =>
        have h2 := (hP2 k x hc).lt
        have h2 : ad k < H2.size := h2
        omega
  have hS5 : va_S (fun q : Nat => s.heap.size ≤ q) s.heap H4 [] := ⟨Nat.le_trans hS2.1 hS4.1, fun q h1 h2 => (hS4.2.1 q (Nat.lt_of_lt_of_le h1 hS2.1) (fun h3 => absurd (Nat.lt_of_lt_of_le h1 (Nat.le_trans hS2.1 h3)) (Nat.lt_irrefl _))).trans (hS2.2.1 q h1 h2), fun q h => by cases h⟩
  have hl5 : lv_has ls 4 [(0, .ref b), (1, .ref (ad 0)), (2, .ref (adr 0)), (3, .int (nI 0))] := by rw [e0, f0]; exact lv_sub hl [3, 2, 1, 0] rfl
  exact law_loop hL C0 hK 599 0 0 S00 Y00 0 X00 ad H4 [] ls (by omega) (by omega) (by omega) iv00 hlS hS5 hl5
