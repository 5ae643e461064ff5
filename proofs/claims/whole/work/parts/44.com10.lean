/-! THE CLASS, 10: the Reach -/
theorem rm_up {G : gw_G} {adr : Nat → Nat} {n : Nat} {S Y : Nat → Nat → Int32} {L : Int64} {i x q : Nat} (hq : q < 4) (hx : x < 12) : va_up (ccel G adr n S Y L) 7 (some (.inl (G.2 4, 48, qr (va_up (rmR adr Y) i (some (adr (nk x (6 + q)))))))) = ccel G adr n S (m2 Y 4 i (nI (4 * x + q))) L := by
  have e : va_up (rmR adr Y) i (some (adr (nk x (6 + q)))) = rmR adr (m2 Y 4 i (nI (4 * x + q))) := by
    funext j
    by_cases hj : j = i
    · subst hj
      simp only [va_up, if_true, rmR, m2_at]
      rw [if_neg (nI_m1 (by omega)), nI_clamp (by omega), show (4 * x + q) / 4 = x by omega, show (4 * x + q) % 4 = q by omega]
    · simp only [va_up, if_neg hj, rmR, m2_o hj]
  funext a
  by_cases ha : a = 7
  · subst ha
    simp only [va_up, if_true, ccel, e]
  · simp only [va_up, if_neg ha]
    match a, ha with
    | 0, _ => rfl
    | 1, _ => rfl
    | 2, _ => rfl
    | 3, _ => simp only [ccel, jfs, m2_nk (show 0 ≠ 4 by decide), m2_nk (show 1 ≠ 4 by decide)]
    | 4, _ => rfl
    | 5, _ => rfl
    | 6, _ => simp only [ccel, rfl5, m2_nk (show 2 ≠ 4 by decide), m2_nk (show 3 ≠ 4 by decide)]
    | 7, ha => exact absurd rfl ha
    | b + 8, _ => rfl
section RMS
variable {p : Program} {l : Launch} {e : Env} {R : Room} {s : State} {m : MethodId} {args : Array Value} {below : List Frame} {meth : Method} {c : Code} {H : Heap} {locs : List Loc} {cells slots : Nat} {Q : State → Prop}
variable {cc : ByteArray} {pc : Nat} {ls : Array Slot} {rest : List Value} {G : gw_G} {A : Nat → Prop} {H0 : Heap} {adr : Nat → Nat} {S Y : Nat → Nat → Int32} {L : Int64} {n : Nat} {own : String}
theorem rm_st (F : gw_F p m c cc s args own) (hK : gw_K G s) (hC : cB G A adr n S Y L H0 H locs) {i x q : Nat} (hi : i < 48) (hxn : x < n) (hn12 : n ≤ 12) (hq : q < 4) (hdg : decode cc pc = .ok (.aastore, 1)) (kk : ∀ (H1 : Heap) (locs1 : List Loc), cB G A adr n S (m2 Y 4 i (nI (4 * x + q))) L H0 H1 locs1 → W p l e R s m args below meth c H1 locs1 cells slots Q (F0 m (pc + 1) ls rest)) : W p l e R s m args below meth c H locs cells slots Q (F0 m pc ls (.ref (adr (nk x (6 + q))) :: .int (nI i) :: .ref (adr 7) :: rest)) := by
  refine gw_aast F hK hC 7 4 (r := (RX4, TX4, 3)) rfl (N := 48) (f := rmR adr Y) rfl (nk x (6 + q)) 4 ((ccel_k hxn (by omega)).trans (kc_m hq)) rfl (vp_in_nI hi (by decide)) hdg (fun H1 locs1 hB => ?_)
  rw [nI_clamp (by omega)] at hB
  exact kk H1 locs1 (gw_B.to hB (rm_up hq (by omega)))
end RMS
abbrev rST : Type := (Nat → Nat → Int32) × Int64
def lb (mm : Nat) : Int64 := (1 : Int64) <<< ((nI mm).toInt64 &&& 63)
def rsz (st : rST) : Nat := (st.1 3 0).toNatClampNeg
def rl_list (mm : Nat) (st : rST) : rST := if ¬ st.2 &&& lb mm = 0 then st else if 48 ≤ rsz st then st else (m2 (m2 st.1 4 (rsz st) (nI mm)) 3 0 (nI (rsz st + 1)), st.2 ||| lb mm)
def rl_add (x : Nat) (st : rST) : rST := rl_list (4 * x) (m2 st.1 2 0 (st.1 2 0 ||| b1 x), st.2)
theorem lcmp0 {x y : Int64} : lg_cmp x y = 0 ↔ x = y := by
  unfold lg_cmp
  constructor
  · intro h
    by_cases h1 : x > y
    · rw [if_pos h1] at h; exact absurd h (by decide)
    · rw [if_neg h1] at h
      by_cases h2 : x = y
      · exact h2
      · rw [if_neg h2] at h; exact absurd h (by decide)
  · intro h
    subst h
    rw [if_neg (show ¬ x > x from Int64.lt_irrefl), if_pos rfl]
theorem rsz_eq {Y : Nat → Nat → Int32} {L : Int64} {sz : Nat} (h : Y 3 0 = nI sz) (hs : sz ≤ 48) : rsz (Y, L) = sz := by
  show (Y 3 0).toNatClampNeg = sz
  rw [h, nI_clamp (by omega)]
theorem rl_1 {Y : Nat → Nat → Int32} {L : Int64} {mm : Nat} (h : ¬ L &&& lb mm = 0) : rl_list mm (Y, L) = (Y, L) := by rw [rl_list, if_pos h]
theorem rl_2 {Y : Nat → Nat → Int32} {L : Int64} {mm sz : Nat} (h : L &&& lb mm = 0) (hz : Y 3 0 = nI sz) (hs : sz ≤ 48) (h48 : 48 ≤ sz) : rl_list mm (Y, L) = (Y, L) := by rw [rl_list, if_neg (not_not_intro h), rsz_eq hz hs, if_pos h48]
theorem rl_3 {Y : Nat → Nat → Int32} {L : Int64} {mm sz : Nat} (h : L &&& lb mm = 0) (hz : Y 3 0 = nI sz) (hs : sz ≤ 48) (h48 : ¬ 48 ≤ sz) : rl_list mm (Y, L) = (m2 (m2 Y 4 sz (nI mm)) 3 0 (nI (sz + 1)), L ||| lb mm) := by rw [rl_list, if_neg (not_not_intro h), rsz_eq hz hs, if_neg h48]
set_option maxHeartbeats 4000000 in
set_option maxRecDepth 100000 in
/-- Reach.list(method) -/
theorem c_X5_list (l : Launch) (G : gw_G) (A : Nat → Prop) (adr : Nat → Nat) (n : Nat) (S Y : Nat → Nat → Int32) (L : Int64) (x q sz : Nat) (hxn : x < n) (hq : q < 4) (hsz : Y 3 0 = nI sz) (hs48 : sz ≤ 48) (hn12 : n ≤ 12) : gm l yX5_list cX5_list 4 none (rmL 0) 0 0 A [.ref (adr 6), .ref (adr (nk x (6 + q)))] (gW G A adr (ccel G adr n S Y L)) (gW G A adr (ccel G adr n S ((rl_list (4 * x + q) (Y, L)).1) ((rl_list (4 * x + q) (Y, L)).2))) none := by
  refine gm_of (own := RX5) (by decide) rfl (Nat.le_of_ble_eq_true rfl) ?_
  intro p e s m below meth c ls F hml hr hlk hnm hK hR hl
  have hx := F.1
  have hb := F.2.1
  replace hl : lv_has ls 4 [(0, .ref (adr 6)), (1, .ref (adr (nk x (6 + q))))] := hl
  refine lv_lconst (v := 1) hx hb dX5_list_0 (by decide) ?_
  refine lv_aload_n hx hb dX5_list_1 rfl (lv_at hl 1 rfl) ?_
  refine mg_0 F hK hR (by omega) (by omega) fl_X5_98 dX5_list_2 ?_
  refine lv_lshl hx hb dX5_list_5 rfl ?_
  refine lv_lstore_n (lv' := [(2, .long ((1 : Int64) <<< ((nI (4 * x + q)).toInt64 &&& 63))), (0, .ref (adr 6)), (1, .ref (adr (nk x (6 + q))))]) hx hb dX5_list_6 rfl hl (by decide) rfl (fun ls hl => ?_)
  refine lv_aload_n hx hb dX5_list_7 rfl (lv_at hl 1 rfl) ?_
  refine hg_1 F hK hR fl_X5_17 dX5_list_8 ?_
  refine lv_lload_n hx hb dX5_list_11 rfl (lv_at hl 0 rfl) ?_
  refine lv_land hx hb dX5_list_12 ?_
  refine lv_lconst (v := 0) hx hb dX5_list_13 (by decide) ?_
  refine W.lcmp hx hb dX5_list_14 ?_
  refine lv_if_ne (tgt := 57) hx hb dX5_list_15 (by decide) (fun c_15 => ?_) (fun c_15 => ?_)
  · exact gr_v F hr hlk hK hR dX5_list_57 (by rw [rl_1 (show ¬ L &&& lb (4 * x + q) = 0 from fun q => c_15 (lcmp0.mpr q))])
  · refine lv_aload_n hx hb dX5_list_18 rfl (lv_at hl 1 rfl) ?_
    refine hg_3 F hK hR fl_X5_27 dX5_list_19 ?_
    refine lv_eq (hsz) ?_
    refine lv_bipush (v := nI 48) hx hb dX5_list_22 (by decide) ?_
    refine nv_icmp_ge (by omega) (by omega) hx hb dX5_list_24 (tgt := 57) (by decide) (fun c_24 => ?_) (fun c_24 => ?_)
    · have n_24 : ¬ (sz < 48) := by omega
      exact gr_v F hr hlk hK hR dX5_list_57 (by rw [rl_2 (show L &&& lb (4 * x + q) = 0 from lcmp0.mp c_15) hsz hs48 c_24])
    · have n_24 : ¬ (48 ≤ sz) := by omega
      refine lv_aload_n hx hb dX5_list_27 rfl (lv_at hl 1 rfl) ?_
      refine lv_dup hx hb dX5_list_28 rfl ?_
      refine hg_1 F hK hR fl_X5_17 dX5_list_29 ?_
      refine lv_lload_n hx hb dX5_list_32 rfl (lv_at hl 0 rfl) ?_
      refine lv_lor hx hb dX5_list_33 ?_
      refine hp_1 F hK hR fl_X5_17 dX5_list_34 (fun H locs hR => ?_)
      refine lv_aload_n hx hb dX5_list_37 rfl (lv_at hl 1 rfl) ?_
      refine hg_2 F hK hR fl_X5_23 dX5_list_38 ?_
      refine lv_aload_n hx hb dX5_list_41 rfl (lv_at hl 1 rfl) ?_
      refine hg_3 F hK hR fl_X5_27 dX5_list_42 ?_
      refine lv_eq (hsz) ?_
      refine lv_aload_n hx hb dX5_list_45 rfl (lv_at hl 2 rfl) ?_
      refine rm_st F hK hR (by omega) (by omega) (by omega) (by omega) dX5_list_46 (fun H locs hR => ?_)
      refine lv_aload_n hx hb dX5_list_47 rfl (lv_at hl 1 rfl) ?_
      refine lv_dup hx hb dX5_list_48 rfl ?_
      refine hg_3 F hK hR fl_X5_27 dX5_list_49 ?_
      refine lv_eq ((m2_nk (by decide)).trans (hsz)) ?_
      refine lv_iconst (v := nI 1) hx hb dX5_list_52 (by decide) ?_
      refine nv_iadd hx hb dX5_list_53 ?_
      refine hp_3 F hK hR fl_X5_27 dX5_list_54 (fun H locs hR => ?_)
      exact gr_v F hr hlk hK hR dX5_list_57 (by rw [rl_3 (show L &&& lb (4 * x + q) = 0 from lcmp0.mp c_15) hsz hs48 n_24]; rfl)
set_option maxHeartbeats 4000000 in
set_option maxRecDepth 100000 in
/-- Reach.clear() -/
theorem c_X5_clear (l : Launch) (G : gw_G) (A : Nat → Prop) (adr : Nat → Nat) (n : Nat) (S Y : Nat → Nat → Int32) (L : Int64)   : gm l yX5_clear cX5_clear 1 none (rmL 0) 0 0 A [.ref (adr 6)] (gW G A adr (ccel G adr n S Y L)) (gW G A adr (ccel G adr n S (m2 (m2 Y 2 0 (nI 0)) 3 0 (nI 0)) 0)) none := by
  refine gm_of (own := RX5) (by decide) rfl (Nat.le_of_ble_eq_true rfl) ?_
  intro p e s m below meth c ls F hml hr hlk hnm hK hR hl
  have hx := F.1
  have hb := F.2.1
  replace hl : lv_has ls 1 [(0, .ref (adr 6))] := hl
  refine lv_aload_n hx hb dX5_clear_0 rfl (lv_at hl 0 rfl) ?_
  refine lv_iconst (v := nI 0) hx hb dX5_clear_1 (by decide) ?_
  refine hp_0 F hK hR fl_X5_11 dX5_clear_2 (fun H locs hR => ?_)
  refine lv_aload_n hx hb dX5_clear_5 rfl (lv_at hl 0 rfl) ?_
  refine lv_lconst (v := 0) hx hb dX5_clear_6 (by decide) ?_
  refine hp_1 F hK hR fl_X5_17 dX5_clear_7 (fun H locs hR => ?_)
  refine lv_aload_n hx hb dX5_clear_10 rfl (lv_at hl 0 rfl) ?_
  refine lv_iconst (v := nI 0) hx hb dX5_clear_11 (by decide) ?_
  refine hp_3 F hK hR fl_X5_27 dX5_clear_12 (fun H locs hR => ?_)
  exact gr_v F hr hlk hK hR dX5_clear_15 (rfl)
set_option maxHeartbeats 4000000 in
set_option maxRecDepth 100000 in
/-- Reach.isWanted(kind) -/
theorem c_X5_isWanted (l : Launch) (G : gw_G) (A : Nat → Prop) (adr : Nat → Nat) (n : Nat) (S Y : Nat → Nat → Int32) (L : Int64) (x : Nat) (hxn : x < n) : gm l yX5_isWanted cX5_isWanted 2 (some .boolean) (rmL 1) 0 0 A [.ref (adr 6), .ref (adr (nk x 0))] (gW G A adr (ccel G adr n S Y L)) (gW G A adr (ccel G adr n S Y L)) (some (.int (if Y 2 0 &&& b1 x = 0 then nI 0 else nI 1))) := by
  refine gm_of (own := RX5) (by decide) rfl (Nat.le_of_ble_eq_true rfl) ?_
  intro p e s m below meth c ls F hml hr hlk hnm hK hR hl
  have hx := F.1
  have hb := F.2.1
  replace hl : lv_has ls 2 [(0, .ref (adr 6)), (1, .ref (adr (nk x 0)))] := hl
  refine lv_aload_n hx hb dX5_isWanted_0 rfl (lv_at hl 0 rfl) ?_
  refine hg_0 F hK hR fl_X5_11 dX5_isWanted_1 ?_
  refine lv_aload_n hx hb dX5_isWanted_4 rfl (lv_at hl 1 rfl) ?_
  refine gcVi (As := []) F hK hR hml cv_X5_94 (o := nk x 0) (ccel_k (by omega) (by decide)) rfl rfl (c_X2_bit l G A adr n S Y L x (by omega)) ⟨rfl, rfl⟩ ⟨Nat.le_of_ble_eq_true rfl, Nat.le_of_ble_eq_true rfl⟩ rfl rfl hl.1 (Nat.le_of_ble_eq_true rfl) dX5_isWanted_5 ⟨Nat.zero_le _, Nat.zero_le _⟩ (fun H locs hR => ?_)
  refine lv_iand hx hb dX5_isWanted_8 ?_
  refine lv_if_eq (tgt := 16) hx hb dX5_isWanted_9 (by decide) (fun c_9 => ?_) (fun c_9 => ?_)
  · refine lv_iconst (v := nI 0) hx hb dX5_isWanted_16 (by decide) ?_
    exact gr_z F hr hlk hK hR dX5_isWanted_17 (by decide) (by rw [if_pos c_9]) (rfl)
  · refine lv_iconst (v := nI 1) hx hb dX5_isWanted_12 (by decide) ?_
    refine lv_goto (tgt := 17) hx hb dX5_isWanted_13 (by decide) ?_
    exact gr_z F hr hlk hK hR dX5_isWanted_17 (by decide) (by rw [if_neg c_9]) (rfl)
set_option maxHeartbeats 4000000 in
set_option maxRecDepth 100000 in
/-- Reach.add(kind) -/
theorem c_X5_add (l : Launch) (G : gw_G) (A : Nat → Prop) (adr : Nat → Nat) (n : Nat) (S Y : Nat → Nat → Int32) (L : Int64) (x sz : Nat) (hxn : x < n) (hsz : Y 3 0 = nI sz) (hs48 : sz ≤ 48) (hn12 : n ≤ 12) : gm l yX5_add cX5_add 2 none (rmL 1) 0 0 A [.ref (adr 6), .ref (adr (nk x 0))] (gW G A adr (ccel G adr n S Y L)) (gW G A adr (ccel G adr n S ((rl_add x (Y, L)).1) ((rl_add x (Y, L)).2))) none := by
  refine gm_of (own := RX5) (by decide) rfl (Nat.le_of_ble_eq_true rfl) ?_
  intro p e s m below meth c ls F hml hr hlk hnm hK hR hl
  have hx := F.1
  have hb := F.2.1
  replace hl : lv_has ls 2 [(0, .ref (adr 6)), (1, .ref (adr (nk x 0)))] := hl
  refine lv_aload_n hx hb dX5_add_0 rfl (lv_at hl 0 rfl) ?_
  refine lv_dup hx hb dX5_add_1 rfl ?_
  refine hg_0 F hK hR fl_X5_11 dX5_add_2 ?_
  refine lv_aload_n hx hb dX5_add_5 rfl (lv_at hl 1 rfl) ?_
  refine gcVi (As := []) F hK hR hml cv_X5_94 (o := nk x 0) (ccel_k (by omega) (by decide)) rfl rfl (c_X2_bit l G A adr n S Y L x (by omega)) ⟨rfl, rfl⟩ ⟨Nat.le_of_ble_eq_true rfl, Nat.le_of_ble_eq_true rfl⟩ rfl rfl hl.1 (Nat.le_of_ble_eq_true rfl) dX5_add_6 ⟨Nat.zero_le _, Nat.zero_le _⟩ (fun H locs hR => ?_)
  refine lv_ior hx hb dX5_add_9 ?_
  refine hp_0 F hK hR fl_X5_11 dX5_add_10 (fun H locs hR => ?_)
  refine lv_aload_n hx hb dX5_add_13 rfl (lv_at hl 0 rfl) ?_
  refine lv_aload_n hx hb dX5_add_14 rfl (lv_at hl 1 rfl) ?_
  refine kg_10 F hK hR (by omega) fl_X5_37 dX5_add_15 ?_
  refine lv_iconst (v := nI 0) hx hb dX5_add_18 (by decide) ?_
  refine mt_ld F hK hR (by omega) (by omega) dX5_add_19 ?_
  refine gcVv (As := [.ref (adr (nk x (6 + 0)))]) F hK hR hml cv_X5_38 (o := 6) (rfl) rfl rfl (c_X5_list l G A adr n S (m2 Y 2 0 ((Y 2 0) ||| (b1 x))) L x 0 sz (by omega) (by omega) ((m2_nk (by decide)).trans (hsz)) (by omega) (by omega)) ⟨rfl, rfl⟩ ⟨Nat.le_of_ble_eq_true rfl, Nat.le_of_ble_eq_true rfl⟩ rfl rfl hl.1 (Nat.le_of_ble_eq_true rfl) dX5_add_20 ⟨Nat.zero_le _, Nat.zero_le _⟩ (fun H locs hR => ?_)
  exact gr_v F hr hlk hK hR dX5_add_23 (rfl)
