/-! THE CLASS, 3: endOfCatch, hasFace -/
theorem subm1 (t : Nat) : nI t - nI 1 = nI t + (-1) := by rw [Int32.sub_eq_add_neg]; rfl
theorem min_l {a b : Nat} (h : a < b) (hb : b < 2 ^ 31) : (if nI b < nI a then nI b else nI a) = nI a := by rw [if_neg (nI_nlt (by omega) (by omega))]
theorem isin_yes {S : Nat → Nat → Int32} {x y i : Nat} (h : S 5 (3 * x + i) = nI y) : ∀ k, i < k → sp_isin S x y k = nI 1 := by
  intro k hk
  induction k with
  | zero => omega
  | succ k ih =>
    rw [sp_isin]
    by_cases hik : i = k
    · subst hik
      by_cases c : ¬ sp_isin S x y i = 0
      · rw [if_pos c]
      · rw [if_neg c, if_pos h]
    · rw [if_pos (by rw [ih (by omega)]; decide)]
theorem isin_no {S : Nat → Nat → Int32} {x y : Nat} : ∀ k, (∀ i, i < k → ¬ S 5 (3 * x + i) = nI y) → sp_isin S x y k = nI 0 := by
  intro k
  induction k with
  | zero => intro _; rfl
  | succ k ih =>
    intro h
    rw [sp_isin, if_neg (not_not_intro (by rw [ih (fun i hi => h i (by omega))]; rfl)), if_neg (h k (by omega))]
set_option maxHeartbeats 4000000 in
set_option maxRecDepth 100000 in
/-- Method.endOfCatch(place, thrown) -/
theorem c_X4_endOfCatch (l : Launch) (G : gw_G) (A : Nat → Prop) (adr : Nat → Nat) (n : Nat) (S Y : Nat → Nat → Int32) (L : Int64) (x q ac pl : Nat) (w : Int32) (hxn : x < n) (hn12 : n ≤ 12) (hq : q < 4) (hac : S 10 (4 * x + q) = nI ac) (h10 : ac ≤ 10) (hpl : pl < ac) : gm l yX4_endOfCatch cX4_endOfCatch 4 (some .int) (rmL 1) 0 0 A [.ref (adr (nk x (6 + q))), .int (nI pl), .int w] (gW G A adr (ccel G adr n S Y L)) (gW G A adr (ccel G adr n S Y L)) (some (.int (eoc (S 11) (4 * x + q) pl w pl))) := by
  refine gm_of (own := RX4) (by decide) rfl (Nat.le_of_ble_eq_true rfl) ?_
  intro p e s m below meth c ls F hml hr hlk hnm hK hR hl
  have hx := F.1
  have hb := F.2.1
  replace hl : lv_has ls 4 [(0, .ref (adr (nk x (6 + q)))), (1, .int (nI pl)), (2, .int w)] := hl
  refine lv_iload_n hx hb dX4_endOfCatch_0 rfl (lv_at hl 1 rfl) ?_
  refine lv_aload_n hx hb dX4_endOfCatch_1 rfl (lv_at hl 0 rfl) ?_
  refine mg_2 F hK hR (by omega) (by omega) fl_X4_17 dX4_endOfCatch_2 ?_
  refine lv_eq (hac) ?_
  refine va_mmin hx hb (hml.trans hl.1.symm) F.2.2.1 (F.2.2.2 _ ml_X4_37) (F.2.2.2 _ st_Lib_Math_min_name) (F.2.2.2 _ in_Math) (F.2.2.2 _ co_Lib_Math_min_name) (Nat.le_of_ble_eq_true rfl) (Nat.le_of_ble_eq_true rfl) (Nat.zero_le _) (Nat.zero_le _) dX4_endOfCatch_5 ?_
  refine lv_eq (min_l hpl (by omega)) ?_
  refine lv_iconst (v := nI 1) hx hb dX4_endOfCatch_8 (by decide) ?_
  refine lv_isub hx hb dX4_endOfCatch_9 ?_
  refine lv_istore_n (lv' := [(3, .int ((nI pl) - (nI 1))), (0, .ref (adr (nk x (6 + q)))), (1, .int (nI pl)), (2, .int w)]) hx hb dX4_endOfCatch_10 rfl hl (by decide) rfl (fun ls hl => ?_)
  refine lp_gen hR (fun H locs hR => ?_)
  obtain ⟨t, ht⟩ : ∃ t : Nat, t = pl := ⟨_, rfl⟩
  obtain ⟨rs, hrs⟩ : ∃ rs, rs = eoc (S 11) (4 * x + q) pl w pl := ⟨_, rfl⟩
  rw [← hrs]
  have hQ : eoc (S 11) (4 * x + q) pl w t = rs := by rw [ht, hrs]
  have ht2 : t ≤ pl := by omega
  replace hl : lv_has ls 4 [(3, .int (nI t + (-1))), (0, .ref (adr (nk x (6 + q)))), (1, .int (nI pl)), (2, .int w)] := by rw [ht, ← subm1]; exact lv_sub hl [0, 1, 2, 3] rfl
  replace hR : cB G A adr n S Y L s.heap H locs := hR
  clear ht hrs
  induction t generalizing ls H locs with
  | zero =>
    refine lv_iload_n hx hb dX4_endOfCatch_11 rfl (lv_at hl 0 rfl) ?_
    refine lv_if_lt (tgt := 57) hx hb dX4_endOfCatch_12 (by decide) (fun c_12 => ?_) (fun c_12 => absurd (by decide) c_12)
    refine lv_iconst (v := (-1)) hx hb dX4_endOfCatch_57 (by decide) ?_
    exact gr_i F hr hlk hK hR dX4_endOfCatch_58 (hQ) (rfl)
  | succ j ih =>
    replace hl : lv_has ls 4 [(3, .int (nI j)), (0, .ref (adr (nk x (6 + q)))), (1, .int (nI pl)), (2, .int w)] := by rw [← pk_m1]; exact hl
    refine lv_iload_n hx hb dX4_endOfCatch_11 rfl (lv_at hl 0 rfl) ?_
    refine nv_if_lt (by omega) hx hb dX4_endOfCatch_12 (tgt := 57) (by decide) ?_
    refine lv_aload_n hx hb dX4_endOfCatch_15 rfl (lv_at hl 1 rfl) ?_
    refine mg_1 F hK hR (by omega) (by omega) fl_X4_13 dX4_endOfCatch_16 ?_
    refine lv_iload_n hx hb dX4_endOfCatch_19 rfl (lv_at hl 0 rfl) ?_
    refine ac_ld F hK hR (by omega) (by omega) (hac) (by omega) (by omega) dX4_endOfCatch_20 ?_
    refine lv_iload_n hx hb dX4_endOfCatch_21 rfl (lv_at hl 2 rfl) ?_
    refine gcVi (As := [.int (nI pl)]) F hK hR hml cv_X4_31 (o := nk x (14 + 10 * q + j)) ((ccel_k (by omega) (by omega)).trans (kc_t (by omega) (hac) (by omega) (by omega))) rfl rfl (c_X0_guards l G A adr n S Y L x q j ac pl (by omega) (by omega) hac (by omega) h10) ⟨rfl, rfl⟩ ⟨Nat.le_of_ble_eq_true rfl, Nat.le_of_ble_eq_true rfl⟩ rfl rfl hl.1 (Nat.le_of_ble_eq_true rfl) dX4_endOfCatch_22 ⟨Nat.zero_le _, Nat.zero_le _⟩ (fun H locs hR => ?_)
    refine lv_if_eq (tgt := 51) hx hb dX4_endOfCatch_25 (by decide) (fun c_25 => ?_) (fun c_25 => ?_)
    · refine lv_iinc (v := (nI j) + (-1)) (lv' := [(3, .int ((nI j) + (-1))), (0, .ref (adr (nk x (6 + q)))), (1, .int (nI pl)), (2, .int w)]) hx hb dX4_endOfCatch_51 hl (k := 0) rfl (rfl) (by decide) rfl (fun ls hl => ?_)
      refine lv_goto (tgt := 11) hx hb dX4_endOfCatch_54 (by decide) ?_
      exact ih _ _ _ (by rw [← hQ, eoc, if_pos c_25]) (by omega) (lv_sub hl [0, 1, 2, 3] rfl) hR
    · refine lv_aload_n hx hb dX4_endOfCatch_28 rfl (lv_at hl 1 rfl) ?_
      refine mg_1 F hK hR (by omega) (by omega) fl_X4_13 dX4_endOfCatch_29 ?_
      refine lv_iload_n hx hb dX4_endOfCatch_32 rfl (lv_at hl 0 rfl) ?_
      refine ac_ld F hK hR (by omega) (by omega) (hac) (by omega) (by omega) dX4_endOfCatch_33 ?_
      refine lv_iload_n hx hb dX4_endOfCatch_34 rfl (lv_at hl 3 rfl) ?_
      refine gcVi (As := [.int w]) F hK hR hml cv_X4_43 (o := nk x (14 + 10 * q + j)) ((ccel_k (by omega) (by omega)).trans (kc_t (by omega) (hac) (by omega) (by omega))) rfl rfl (c_X0_catches l G A adr n S Y L x q j ac w (by omega) (by omega) hac (by omega) h10) ⟨rfl, rfl⟩ ⟨Nat.le_of_ble_eq_true rfl, Nat.le_of_ble_eq_true rfl⟩ rfl rfl hl.1 (Nat.le_of_ble_eq_true rfl) dX4_endOfCatch_35 ⟨Nat.zero_le _, Nat.zero_le _⟩ (fun H locs hR => ?_)
      refine lv_if_eq (tgt := 51) hx hb dX4_endOfCatch_38 (by decide) (fun c_38 => ?_) (fun c_38 => ?_)
      · refine lv_iinc (v := (nI j) + (-1)) (lv' := [(3, .int ((nI j) + (-1))), (0, .ref (adr (nk x (6 + q)))), (1, .int (nI pl)), (2, .int w)]) hx hb dX4_endOfCatch_51 hl (k := 0) rfl (rfl) (by decide) rfl (fun ls hl => ?_)
        refine lv_goto (tgt := 11) hx hb dX4_endOfCatch_54 (by decide) ?_
        exact ih _ _ _ (by rw [← hQ, eoc, if_neg c_25, if_pos c_38]) (by omega) (lv_sub hl [0, 1, 2, 3] rfl) hR
      · refine lv_aload_n hx hb dX4_endOfCatch_41 rfl (lv_at hl 1 rfl) ?_
        refine mg_1 F hK hR (by omega) (by omega) fl_X4_13 dX4_endOfCatch_42 ?_
        refine lv_iload_n hx hb dX4_endOfCatch_45 rfl (lv_at hl 0 rfl) ?_
        refine ac_ld F hK hR (by omega) (by omega) (hac) (by omega) (by omega) dX4_endOfCatch_46 ?_
        refine ag_5 F hK hR (by omega) (by omega) (hac) (by omega) (by omega) fl_X4_35 dX4_endOfCatch_47 ?_
        exact gr_i F hr hlk hK hR dX4_endOfCatch_50 (by rw [← hQ, eoc, if_neg c_25, if_neg c_38]) (rfl)
set_option maxHeartbeats 4000000 in
set_option maxRecDepth 100000 in
/-- Kind.hasFace(face) -/
theorem c_X2_hasFace (l : Launch) (G : gw_G) (A : Nat → Prop) (adr : Nat → Nat) (n : Nat) (S Y : Nat → Nat → Int32) (L : Int64) (x y fc : Nat) (hxn : x < n) (hn12 : n ≤ 12) (hy : y < 12) (hfc : S 4 x = nI fc) (h3 : fc ≤ 3) (hfo : ∀ i, i < fc → ∃ y, y < x ∧ S 5 (3 * x + i) = nI y) : gm l yX2_hasFace cX2_hasFace 3 (some .boolean) (rmL 0) 0 0 A [.ref (adr (nk x 0)), .int (nI y)] (gW G A adr (ccel G adr n S Y L)) (gW G A adr (ccel G adr n S Y L)) (some (.int (sp_isin S x y fc))) := by
  refine gm_of (own := RX2) (by decide) rfl (Nat.le_of_ble_eq_true rfl) ?_
  intro p e s m below meth c ls F hml hr hlk hnm hK hR hl
  have hx := F.1
  have hb := F.2.1
  replace hl : lv_has ls 3 [(0, .ref (adr (nk x 0))), (1, .int (nI y))] := hl
  refine lv_iconst (v := nI 0) hx hb dX2_hasFace_0 (by decide) ?_
  refine lv_istore_n (lv' := [(2, .int (nI 0)), (0, .ref (adr (nk x 0))), (1, .int (nI y))]) hx hb dX2_hasFace_1 rfl hl (by decide) rfl (fun ls hl => ?_)
  refine lp_gen hR (fun H locs hR => ?_)
  obtain ⟨k, hk⟩ : ∃ k : Nat, k = 0 := ⟨_, rfl⟩
  replace hl : lv_has ls 3 [(2, .int (nI k)), (0, .ref (adr (nk x 0))), (1, .int (nI y))] := by rw [hk]; exact lv_sub hl [0, 1, 2] rfl
  have hle : k ≤ fc := by omega
  replace hR : cB G A adr n S Y L s.heap H locs := hR
  have hno : ∀ i, i < k → ¬ S 5 (3 * x + i) = nI y := fun i hi => absurd hi (by omega)
  clear hk
  generalize hd : fc - k = d
  induction d generalizing k ls H locs with
  | zero =>
    have ek := sub0 hd hle
    refine lv_iload_n hx hb dX2_hasFace_2 rfl (lv_at hl 0 rfl) ?_
    refine lv_aload_n hx hb dX2_hasFace_3 rfl (lv_at hl 1 rfl) ?_
    refine kg_5 F hK hR (by omega) fl_X2_15 dX2_hasFace_4 ?_
    refine lv_eq (hfc) ?_
    refine nv_icmp_ge (by omega) (by omega) hx hb dX2_hasFace_7 (tgt := 31) (by decide) (fun c_7 => ?_) (fun c_7 => absurd c_7 (by omega))
    refine lv_iconst (v := nI 0) hx hb dX2_hasFace_31 (by decide) ?_
    exact gr_z F hr hlk hK hR dX2_hasFace_32 (by decide) ((isin_no fc (fun i hi => hno i (by omega))).symm) (rfl)
  | succ d ih =>
    obtain ⟨yk, hyk, hye⟩ := hfo k (by omega)
    refine lv_iload_n hx hb dX2_hasFace_2 rfl (lv_at hl 0 rfl) ?_
    refine lv_aload_n hx hb dX2_hasFace_3 rfl (lv_at hl 1 rfl) ?_
    refine kg_5 F hK hR (by omega) fl_X2_15 dX2_hasFace_4 ?_
    refine lv_eq (hfc) ?_
    refine nv_icmp_ge (by omega) (by omega) hx hb dX2_hasFace_7 (tgt := 31) (by decide) (fun c_7 => absurd c_7 (by omega)) (fun c_7 => ?_)
    refine lv_aload_n hx hb dX2_hasFace_10 rfl (lv_at hl 1 rfl) ?_
    refine kg_4 F hK hR (by omega) fl_X2_11 dX2_hasFace_11 ?_
    refine lv_iload_n hx hb dX2_hasFace_14 rfl (lv_at hl 0 rfl) ?_
    refine fc_ld F hK hR (by omega) (hfc) (by omega) (by omega) (hye) (by omega) dX2_hasFace_15 ?_
    refine kg_0 F hK hR (by omega) fl_X2_42 dX2_hasFace_16 ?_
    refine lv_iload_n hx hb dX2_hasFace_19 rfl (lv_at hl 2 rfl) ?_
    refine nv_icmp_ne (by omega) (by omega) hx hb dX2_hasFace_20 (tgt := 25) (by decide) (fun c_20 => ?_) (fun c_20 => ?_)
    · refine lv_iinc (v := nI (k + 1)) (lv' := [(2, .int (nI (k + 1))), (0, .ref (adr (nk x 0))), (1, .int (nI y))]) hx hb dX2_hasFace_25 hl (k := 0) rfl (nI_add _ _) (by decide) rfl (fun ls hl => ?_)
      refine lv_goto (tgt := 2) hx hb dX2_hasFace_28 (by decide) ?_
      exact ih _ _ _ _ (lv_sub hl [0, 1, 2] rfl) (by omega) hR (fun i hi => (Nat.lt_or_ge i k).elim (fun q => hno i q) (fun q => by rw [show i = k by omega, hye]; exact fun q2 => c_20 ((nI_eq (by omega) (by omega)).mp q2))) (by omega)
    · refine lv_iconst (v := nI 1) hx hb dX2_hasFace_23 (by decide) ?_
      exact gr_z F hr hlk hK hR dX2_hasFace_24 (by decide) ((isin_yes (by rw [hye, c_20]) fc (by omega)).symm) (rfl)
