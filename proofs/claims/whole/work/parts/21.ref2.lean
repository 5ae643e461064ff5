/-! THE REFERENCE, 2 -/
def sp_event (S : Nat → Nat → Int32) (x0 x1 : Int32) : Int32 := if x0 < 0 then nI 0 else if S 13 0 ≤ x0 then nI 0 else if x1 < 0 then nI 0 else if nI 1 < x1 then nI 0 else if x1 = 0 then S 14 x0.toNatClampNeg else S 15 x0.toNatClampNeg
def sp_item (S : Nat → Nat → Int32) (x0 x1 : Int32) : Int32 := if sp_has (S 0 0) x0 = 0 then nI 0 else if x1 < 0 then nI 0 else if S 8 x0.toNatClampNeg - nI 1 ≤ x1 then nI 0 else S 9 (20 * x0.toNatClampNeg + x1.toNatClampNeg)
theorem row_yes {M x : Int32} {r : Nat} (hM : M = nI r) (hr : r ≤ 21) (h1 : ¬ x < 0) (h2 : ¬ M - nI 1 ≤ x) : ∃ j, j + 1 < r ∧ x = nI j := by
  subst hM
  rcases Nat.eq_zero_or_pos r with q | q
  · subst q
    exfalso
    apply h2
    rw [Int32.le_iff_toInt_le]
    rw [Int32.lt_iff_toInt_lt] at h1
    have e1 : (nI 0 - nI 1).toInt = -1 := by decide
    have e2 : (0 : Int32).toInt = 0 := rfl
    omega
  · rw [pk_sub q] at h2
    obtain ⟨j, q1, q2⟩ := ix_yes rfl (by omega) h1 h2
    exact ⟨j, by omega, q2⟩
def rf_wantS (S : Nat → Nat → Int32) (ev x : Nat) : Nat → Nat → Int32 := if S 12 x = nI 3 then sp_ar S (nI 8) else if S 12 x = 0 then sp_tell (m2 S 12 x (nI 1)) ev (nI 0) (nI x) else S
def rf_wantX (S X : Nat → Nat → Int32) (f x : Nat) : Nat → Nat → Int32 := if S 12 x = nI 3 then m2 X 31 0 (nI 8) else if S 12 x = 0 then rf_push X f (nI 1) (nI x) (nI 0) else X
def rf_entS (S : Nat → Nat → Int32) (wi : Nat) : Nat → Nat → Int32 := if wi = 8 then sp_ar S (nI 9) else S
def rf_entX (X : Nat → Nat → Int32) (wi f : Nat) (ra rb : Int32) : Nat → Nat → Int32 := if wi = 8 then m2 X 31 0 (nI 9) else rf_push (m2 X 21 0 (nI (wi + 1))) f (nI 0) ra rb
def rf_wants2 (so : Nat) (a : Int32) : Int32 := if so = 7 then a else if so = 8 then a else -1
def rf_wants (S : Nat → Nat → Int32) (so : Nat) (a b c : Int32) : Int32 := if so < 1 then rf_wants2 so a else if 3 < so then rf_wants2 so a else if S 7 (4 * b.toNatClampNeg + c.toNatClampNeg) = 0 then b else -1
def sp_madeE (S : Nat → Nat → Int32) (x0 : Int32) : Int32 := if x0 = -1 then 0 else if sp_has (S 0 0) x0 = 0 then -2 else if S 1 x0.toNatClampNeg = 0 then 0 else -4
def sp_madeR (S : Nat → Nat → Int32) (n : Nat) (x0 : Int32) : Int32 := if sp_madeE S x0 = 0 then sp_makeR n else sp_madeE S x0
def sp_madeS (S : Nat → Nat → Int32) (n : Nat) (x0 : Int32) : Nat → Nat → Int32 := if sp_madeE S x0 = 0 then sp_makeS S n (nI 0) (nI 0) x0 else S
def sp_constE (S : Nat → Nat → Int32) (x0 x1 : Int32) : Int32 := if sp_has (S 0 0) x0 = 0 then -2 else if sp_isF x1 = 0 then -3 else if ¬ S 7 (4 * x0.toNatClampNeg + x1.toNatClampNeg) = 0 then -4 else if ¬ S 12 x0.toNatClampNeg = 0 then -4 else nI 1
def sp_constS (S : Nat → Nat → Int32) (x0 x1 x2 : Int32) : Nat → Nat → Int32 := if sp_constE S x0 x1 = nI 1 then m2 (m2 S 7 (4 * x0.toNatClampNeg + x1.toNatClampNeg) (nI 1)) 6 (4 * x0.toNatClampNeg + x1.toNatClampNeg) x2 else S
def sp_areIn (so : Nat) (a b c : Int32) : Int32 := match so with
  | 0 => sp_isF a
  | 1 => if sp_isF a = 0 then nI 0 else if sp_isF c = 0 then nI 0 else nI 1
  | 2 => if sp_isF a = 0 then nI 0 else if sp_isF c = 0 then nI 0 else nI 1
  | 3 => if sp_isF a = 0 then nI 0 else if sp_isF c = 0 then nI 0 else nI 1
  | 4 => sp_isF a
  | 5 => if sp_isF a = 0 then nI 0 else if sp_isF b = 0 then nI 0 else nI 1
  | 6 => if sp_isF a = 0 then nI 0 else if sp_isF b = 0 then nI 0 else nI 1
  | 7 => if b < nI 1 then nI 0 else if nI 3 < b then nI 0 else nI 1
  | 9 => if a < 0 then nI 0 else if nI 2 < a then nI 0 else nI 1
  | 11 => if a < nI 1 then nI 0 else if nI 9 < a then nI 0 else if b < -1 then nI 0 else if nI 9 < b then nI 0 else nI 1
  | _ => nI 1
def sp_isin (S : Nat → Nat → Int32) (x y : Nat) : Nat → Int32
  | 0 => nI 0
  | k + 1 => if ¬ sp_isin S x y k = 0 then nI 1 else if S 5 (3 * x + k) = nI y then nI 1 else nI 0
def sp_bearsE (S : Nat → Nat → Int32) (x0 x1 : Int32) : Int32 := if sp_has (S 0 0) x0 = 0 then -2 else if sp_has (S 0 0) x1 = 0 then -2 else if S 1 x1.toNatClampNeg = 0 then -4 else if x0.toNatClampNeg ≤ x1.toNatClampNeg then -4 else if ¬ sp_isin S x0.toNatClampNeg x1.toNatClampNeg (S 4 x0.toNatClampNeg).toNatClampNeg = 0 then -4 else if ¬ S 12 x0.toNatClampNeg = 0 then -4 else if (S 4 x0.toNatClampNeg).toNatClampNeg = 3 then -5 else 0
def sp_bearsR (S : Nat → Nat → Int32) (x0 x1 : Int32) : Int32 := if sp_bearsE S x0 x1 = 0 then nI ((S 4 x0.toNatClampNeg).toNatClampNeg + 1) else sp_bearsE S x0 x1
def sp_bearsS (S : Nat → Nat → Int32) (x0 x1 : Int32) : Nat → Nat → Int32 := if sp_bearsE S x0 x1 = 0 then m2 (m2 S 5 (3 * x0.toNatClampNeg + (S 4 x0.toNatClampNeg).toNatClampNeg) x1) 4 x0.toNatClampNeg (nI ((S 4 x0.toNatClampNeg).toNatClampNeg + 1)) else S
def sp_zero (S : Nat → Nat → Int32) (x : Nat) : Nat → Nat → Nat → Int32
  | 0 => S
  | k + 1 => m2 (sp_zero S x k) 9 (20 * x + k) (nI 0)
def sp_rowR (v : Int32) : Int32 := if v < 0 then nI 6 else -1
def sp_rowN (v : Int32) : Nat := if nI 20 < v then 20 else v.toNatClampNeg
def sp_rowS (S : Nat → Nat → Int32) (x : Nat) (v : Int32) : Nat → Nat → Int32 := if v < 0 then sp_ar S (nI 6) else sp_zero (m2 S 8 x (nI (sp_rowN v + 1))) x (sp_rowN v)
set_option maxHeartbeats 4000000 in
set_option maxRecDepth 100000 in
/-- event(i, what) -/
theorem c_X7_event (l : Launch) (G : gw_G) (A : Nat → Prop) (adr : Nat → Nat) (S X : Nat → Nat → Int32) (ev : Nat) (x0 x1 : Int32) (hev : S 13 0 = nI ev) (he : ev ≤ 60) : gm l yX7_event cX7_event 3 (some .int) (rmL 0) 0 0 A [.ref (adr 0), .int x0, .int x1] (gW G A adr (rcel G adr S X)) (gW G A adr (rcel G adr S X)) (some (.int (sp_event S x0 x1))) := by
  refine gm_of (own := RX7) (by decide) rfl (Nat.le_of_ble_eq_true rfl) ?_
  intro p e s m below meth c ls F hml hr hlk hnm hK hR hl
  have hx := F.1
  have hb := F.2.1
  have hl : lv_has ls 3 [(0, .ref (adr 0)), (1, .int x0), (2, .int x1)] := hl
  refine lv_iload_n hx hb dX7_event_0 rfl (lv_at hl 1 rfl) ?_
  refine lv_if_lt (tgt := 21) hx hb dX7_event_1 (by decide) (fun c_1 => ?_) (fun c_1 => ?_)
  · have n_1 := Int32.not_le.mpr c_1
    refine lv_iconst (v := nI 0) hx hb dX7_event_21 (by decide) ?_
    exact gr_i F hr hlk hK hR dX7_event_22 (by unfold sp_event; repeat (first | rw [if_pos c_1] | rw [if_neg c_1] | rw [if_neg (not_not_intro c_1)] | rw [if_pos n_1] | rw [if_neg n_1] | rw [if_neg (not_not_intro n_1)])) (rfl)
  · have n_1 := Int32.not_lt.mp c_1
    refine lv_iload_n hx hb dX7_event_4 rfl (lv_at hl 1 rfl) ?_
    refine lv_aload_n hx hb dX7_event_5 rfl (lv_at hl 0 rfl) ?_
    refine rg_13 F hK hR dX7_event_6 ?_
    refine lv_icmp_ge (tgt := 21) hx hb dX7_event_9 (by decide) (fun c_9 => ?_) (fun c_9 => ?_)
    · have n_9 := Int32.not_lt.mpr c_9
      refine lv_iconst (v := nI 0) hx hb dX7_event_21 (by decide) ?_
      exact gr_i F hr hlk hK hR dX7_event_22 (by unfold sp_event; repeat (first | rw [if_pos c_1] | rw [if_neg c_1] | rw [if_neg (not_not_intro c_1)] | rw [if_pos n_1] | rw [if_neg n_1] | rw [if_neg (not_not_intro n_1)] | rw [if_pos c_9] | rw [if_neg c_9] | rw [if_neg (not_not_intro c_9)] | rw [if_pos n_9] | rw [if_neg n_9] | rw [if_neg (not_not_intro n_9)])) (rfl)
    · have n_9 := Int32.not_le.mp c_9
      obtain ⟨i, h_i, rfl⟩ := ix_yes hev (by omega) c_1 c_9
      refine lv_iload_n hx hb dX7_event_12 rfl (lv_at hl 2 rfl) ?_
      refine lv_if_lt (tgt := 21) hx hb dX7_event_13 (by decide) (fun c_13 => ?_) (fun c_13 => ?_)
      · have n_13 := Int32.not_le.mpr c_13
        refine lv_iconst (v := nI 0) hx hb dX7_event_21 (by decide) ?_
        exact gr_i F hr hlk hK hR dX7_event_22 (by unfold sp_event; rw [nI_clamp (by omega)]; repeat (first | rw [if_pos c_1] | rw [if_neg c_1] | rw [if_neg (not_not_intro c_1)] | rw [if_pos n_1] | rw [if_neg n_1] | rw [if_neg (not_not_intro n_1)] | rw [if_pos c_9] | rw [if_neg c_9] | rw [if_neg (not_not_intro c_9)] | rw [if_pos n_9] | rw [if_neg n_9] | rw [if_neg (not_not_intro n_9)] | rw [if_pos c_13] | rw [if_neg c_13] | rw [if_neg (not_not_intro c_13)] | rw [if_pos n_13] | rw [if_neg n_13] | rw [if_neg (not_not_intro n_13)])) (rfl)
      · have n_13 := Int32.not_lt.mp c_13
        refine lv_iload_n hx hb dX7_event_16 rfl (lv_at hl 2 rfl) ?_
        refine lv_iconst (v := nI 1) hx hb dX7_event_17 (by decide) ?_
        refine lv_icmp_le (tgt := 23) hx hb dX7_event_18 (by decide) (fun c_18 => ?_) (fun c_18 => ?_)
        · have n_18 := Int32.not_lt.mpr c_18
          refine lv_iload_n hx hb dX7_event_23 rfl (lv_at hl 2 rfl) ?_
          refine lv_if_ne (tgt := 36) hx hb dX7_event_24 (by decide) (fun c_24 => ?_) (fun c_24 => ?_)
          · refine lv_aload_n hx hb dX7_event_36 rfl (lv_at hl 0 rfl) ?_
            refine rg_15 F hK hR dX7_event_37 ?_
            refine lv_iload_n hx hb dX7_event_40 rfl (lv_at hl 1 rfl) ?_
            refine ri_15 F hK hR (by omega) dX7_event_41 ?_
            exact gr_i F hr hlk hK hR dX7_event_42 (by unfold sp_event; rw [nI_clamp (by omega)]; repeat (first | rw [if_pos c_1] | rw [if_neg c_1] | rw [if_neg (not_not_intro c_1)] | rw [if_pos n_1] | rw [if_neg n_1] | rw [if_neg (not_not_intro n_1)] | rw [if_pos c_9] | rw [if_neg c_9] | rw [if_neg (not_not_intro c_9)] | rw [if_pos n_9] | rw [if_neg n_9] | rw [if_neg (not_not_intro n_9)] | rw [if_pos c_13] | rw [if_neg c_13] | rw [if_neg (not_not_intro c_13)] | rw [if_pos n_13] | rw [if_neg n_13] | rw [if_neg (not_not_intro n_13)] | rw [if_pos c_18] | rw [if_neg c_18] | rw [if_neg (not_not_intro c_18)] | rw [if_pos n_18] | rw [if_neg n_18] | rw [if_neg (not_not_intro n_18)] | rw [if_pos c_24] | rw [if_neg c_24] | rw [if_neg (not_not_intro c_24)])) (rfl)
          · refine lv_aload_n hx hb dX7_event_27 rfl (lv_at hl 0 rfl) ?_
            refine rg_14 F hK hR dX7_event_28 ?_
            refine lv_iload_n hx hb dX7_event_31 rfl (lv_at hl 1 rfl) ?_
            refine ri_14 F hK hR (by omega) dX7_event_32 ?_
            refine lv_goto (tgt := 42) hx hb dX7_event_33 (by decide) ?_
            exact gr_i F hr hlk hK hR dX7_event_42 (by unfold sp_event; rw [nI_clamp (by omega)]; repeat (first | rw [if_pos c_1] | rw [if_neg c_1] | rw [if_neg (not_not_intro c_1)] | rw [if_pos n_1] | rw [if_neg n_1] | rw [if_neg (not_not_intro n_1)] | rw [if_pos c_9] | rw [if_neg c_9] | rw [if_neg (not_not_intro c_9)] | rw [if_pos n_9] | rw [if_neg n_9] | rw [if_neg (not_not_intro n_9)] | rw [if_pos c_13] | rw [if_neg c_13] | rw [if_neg (not_not_intro c_13)] | rw [if_pos n_13] | rw [if_neg n_13] | rw [if_neg (not_not_intro n_13)] | rw [if_pos c_18] | rw [if_neg c_18] | rw [if_neg (not_not_intro c_18)] | rw [if_pos n_18] | rw [if_neg n_18] | rw [if_neg (not_not_intro n_18)] | rw [if_pos c_24] | rw [if_neg c_24] | rw [if_neg (not_not_intro c_24)])) (rfl)
        · have n_18 := Int32.not_le.mp c_18
          refine lv_iconst (v := nI 0) hx hb dX7_event_21 (by decide) ?_
          exact gr_i F hr hlk hK hR dX7_event_22 (by unfold sp_event; rw [nI_clamp (by omega)]; repeat (first | rw [if_pos c_1] | rw [if_neg c_1] | rw [if_neg (not_not_intro c_1)] | rw [if_pos n_1] | rw [if_neg n_1] | rw [if_neg (not_not_intro n_1)] | rw [if_pos c_9] | rw [if_neg c_9] | rw [if_neg (not_not_intro c_9)] | rw [if_pos n_9] | rw [if_neg n_9] | rw [if_neg (not_not_intro n_9)] | rw [if_pos c_13] | rw [if_neg c_13] | rw [if_neg (not_not_intro c_13)] | rw [if_pos n_13] | rw [if_neg n_13] | rw [if_neg (not_not_intro n_13)] | rw [if_pos c_18] | rw [if_neg c_18] | rw [if_neg (not_not_intro c_18)] | rw [if_pos n_18] | rw [if_neg n_18] | rw [if_neg (not_not_intro n_18)])) (rfl)
set_option maxHeartbeats 4000000 in
set_option maxRecDepth 100000 in
/-- item(x, i) -/
theorem c_X7_item (l : Launch) (G : gw_G) (A : Nat → Prop) (adr : Nat → Nat) (S X : Nat → Nat → Int32) (n : Nat) (x0 x1 : Int32) (hn0 : S 0 0 = nI n) (hn : n ≤ 12) (hrow : ∀ x, x < 12 → ∃ r, r ≤ 21 ∧ S 8 x = nI r) : gm l yX7_item cX7_item 3 (some .int) (rmL 1) 0 0 A [.ref (adr 0), .int x0, .int x1] (gW G A adr (rcel G adr S X)) (gW G A adr (rcel G adr S X)) (some (.int (sp_item S x0 x1))) := by
  refine gm_of (own := RX7) (by decide) rfl (Nat.le_of_ble_eq_true rfl) ?_
  intro p e s m below meth c ls F hml hr hlk hnm hK hR hl
  have hx := F.1
  have hb := F.2.1
  have hl : lv_has ls 3 [(0, .ref (adr 0)), (1, .int x0), (2, .int x1)] := hl
  refine lv_aload_n hx hb dX7_item_0 rfl (lv_at hl 0 rfl) ?_
  refine lv_iload_n hx hb dX7_item_1 rfl (lv_at hl 1 rfl) ?_
  refine gcVi (As := [.int x0]) F hK hR hml cv_X7_87 (o := 0) rfl rfl rfl (c_X7_has l G A adr S X x0) ⟨rfl, rfl⟩ ⟨Nat.le_of_ble_eq_true rfl, Nat.le_of_ble_eq_true rfl⟩ rfl rfl hl.1 (Nat.le_of_ble_eq_true rfl) dX7_item_2 ⟨Nat.zero_le _, Nat.zero_le _⟩ (fun H locs hR => ?_)
  refine lv_if_eq (tgt := 24) hx hb dX7_item_5 (by decide) (fun c_5 => ?_) (fun c_5 => ?_)
  · refine lv_iconst (v := nI 0) hx hb dX7_item_24 (by decide) ?_
    refine lv_goto (tgt := 39) hx hb dX7_item_25 (by decide) ?_
    exact gr_i F hr hlk hK hR dX7_item_39 (by unfold sp_item; rw [if_pos c_5]) (rfl)
  · obtain ⟨x, h_x, rfl⟩ := has_yes hn0 hn c_5
    obtain ⟨r, q1, q2⟩ := hrow x (by omega)
    refine lv_iload_n hx hb dX7_item_8 rfl (lv_at hl 2 rfl) ?_
    refine lv_if_lt (tgt := 24) hx hb dX7_item_9 (by decide) (fun c_9 => ?_) (fun c_9 => ?_)
    · have n_9 := Int32.not_le.mpr c_9
      refine lv_iconst (v := nI 0) hx hb dX7_item_24 (by decide) ?_
      refine lv_goto (tgt := 39) hx hb dX7_item_25 (by decide) ?_
      exact gr_i F hr hlk hK hR dX7_item_39 (by unfold sp_item; rw [nI_clamp (n := x) (by omega)]; repeat (first | rw [if_pos c_5] | rw [if_neg c_5] | rw [if_neg (not_not_intro c_5)] | rw [if_pos c_9] | rw [if_neg c_9] | rw [if_neg (not_not_intro c_9)] | rw [if_pos n_9] | rw [if_neg n_9] | rw [if_neg (not_not_intro n_9)])) (rfl)
    · have n_9 := Int32.not_lt.mp c_9
      refine lv_iload_n hx hb dX7_item_12 rfl (lv_at hl 2 rfl) ?_
      refine lv_aload_n hx hb dX7_item_13 rfl (lv_at hl 0 rfl) ?_
      refine rg_8 F hK hR dX7_item_14 ?_
      refine lv_iload_n hx hb dX7_item_17 rfl (lv_at hl 1 rfl) ?_
      refine ri_8 F hK hR (by omega) dX7_item_18 ?_
      refine lv_iconst (v := nI 1) hx hb dX7_item_19 (by decide) ?_
      refine lv_isub hx hb dX7_item_20 ?_
      refine lv_icmp_lt (tgt := 28) hx hb dX7_item_21 (by decide) (fun c_21 => ?_) (fun c_21 => ?_)
      · have n_21 := Int32.not_le.mpr c_21
        obtain ⟨i, h_i, rfl⟩ := row_yes q2 q1 c_9 n_21
        refine lv_aload_n hx hb dX7_item_28 rfl (lv_at hl 0 rfl) ?_
        refine rg_9 F hK hR dX7_item_29 ?_
        refine lv_bipush (v := nI 20) hx hb dX7_item_32 (by decide) ?_
        refine lv_iload_n hx hb dX7_item_34 rfl (lv_at hl 1 rfl) ?_
        refine nv_imul hx hb dX7_item_35 ?_
        refine lv_iload_n hx hb dX7_item_36 rfl (lv_at hl 2 rfl) ?_
        refine nv_iadd hx hb dX7_item_37 ?_
        refine ri_9 F hK hR (by omega) dX7_item_38 ?_
        exact gr_i F hr hlk hK hR dX7_item_39 (by unfold sp_item; rw [nI_clamp (n := x) (by omega), if_neg c_5, if_neg c_9, if_neg n_21, nI_clamp (by omega)]) (rfl)
      · have n_21 := Int32.not_lt.mp c_21
        refine lv_iconst (v := nI 0) hx hb dX7_item_24 (by decide) ?_
        refine lv_goto (tgt := 39) hx hb dX7_item_25 (by decide) ?_
        exact gr_i F hr hlk hK hR dX7_item_39 (by unfold sp_item; rw [nI_clamp (n := x) (by omega)]; repeat (first | rw [if_pos c_5] | rw [if_neg c_5] | rw [if_neg (not_not_intro c_5)] | rw [if_pos c_9] | rw [if_neg c_9] | rw [if_neg (not_not_intro c_9)] | rw [if_pos n_9] | rw [if_neg n_9] | rw [if_neg (not_not_intro n_9)] | rw [if_pos c_21] | rw [if_neg c_21] | rw [if_neg (not_not_intro c_21)] | rw [if_pos n_21] | rw [if_neg n_21] | rw [if_neg (not_not_intro n_21)])) (rfl)
set_option maxHeartbeats 4000000 in
set_option maxRecDepth 100000 in
/-- want(x) -/
theorem c_X7_want (l : Launch) (G : gw_G) (A : Nat → Prop) (adr : Nat → Nat) (S X : Nat → Nat → Int32) (ev f x : Nat) (hev : S 13 0 = nI ev) (he : ev ≤ 60) (hf0 : X 22 0 = nI f) (hf : f < 300) (hxx : x < 12) : gm l yX7_want cX7_want 2 none (rmL 1) 0 0 A [.ref (adr 0), .int (nI x)] (gW G A adr (rcel G adr S X)) (gW G A adr (rcel G adr (rf_wantS S ev x) (rf_wantX S X f x))) none := by
  refine gm_of (own := RX7) (by decide) rfl (Nat.le_of_ble_eq_true rfl) ?_
  intro p e s m below meth c ls F hml hr hlk hnm hK hR hl
  have hx := F.1
  have hb := F.2.1
  have hl : lv_has ls 2 [(0, .ref (adr 0)), (1, .int (nI x))] := hl
  refine lv_aload_n hx hb dX7_want_0 rfl (lv_at hl 0 rfl) ?_
  refine rg_12 F hK hR dX7_want_1 ?_
  refine lv_iload_n hx hb dX7_want_4 rfl (lv_at hl 1 rfl) ?_
  refine ri_12 F hK hR (by omega) dX7_want_5 ?_
  refine lv_iconst (v := nI 3) hx hb dX7_want_6 (by decide) ?_
  refine lv_icmp_ne (tgt := 23) hx hb dX7_want_7 (by decide) (fun c_7 => ?_) (fun c_7 => ?_)
  · refine lv_aload_n hx hb dX7_want_23 rfl (lv_at hl 0 rfl) ?_
    refine rg_12 F hK hR dX7_want_24 ?_
    refine lv_iload_n hx hb dX7_want_27 rfl (lv_at hl 1 rfl) ?_
    refine ri_12 F hK hR (by omega) dX7_want_28 ?_
    refine lv_if_ne (tgt := 52) hx hb dX7_want_29 (by decide) (fun c_29 => ?_) (fun c_29 => ?_)
    · exact gr_v F hr hlk hK hR dX7_want_52 (by unfold rf_wantS rf_wantX; repeat (first | rw [if_pos c_7] | rw [if_neg c_7] | rw [if_neg (not_not_intro c_7)] | rw [if_pos c_29] | rw [if_neg c_29] | rw [if_neg (not_not_intro c_29)]))
    · refine lv_aload_n hx hb dX7_want_32 rfl (lv_at hl 0 rfl) ?_
      refine rg_12 F hK hR dX7_want_33 ?_
      refine lv_iload_n hx hb dX7_want_36 rfl (lv_at hl 1 rfl) ?_
      refine lv_iconst (v := nI 1) hx hb dX7_want_37 (by decide) ?_
      refine rs_12 F hK hR (by omega) dX7_want_38 (fun H locs hR => ?_)
      refine lv_aload_n hx hb dX7_want_39 rfl (lv_at hl 0 rfl) ?_
      refine lv_iconst (v := nI 0) hx hb dX7_want_40 (by decide) ?_
      refine lv_iload_n hx hb dX7_want_41 rfl (lv_at hl 1 rfl) ?_
      refine gcVv (As := [.int (nI 0), .int (nI x)]) F hK hR hml cv_X7_118 (o := 0) rfl rfl rfl (c_X7_tell l G A adr (m2 S 12 x (nI 1)) X ev (nI 0) (nI x) ((m2_nk (by decide)).trans (hev)) (by omega)) ⟨rfl, rfl⟩ ⟨Nat.le_of_ble_eq_true rfl, Nat.le_of_ble_eq_true rfl⟩ rfl rfl hl.1 (Nat.le_of_ble_eq_true rfl) dX7_want_42 ⟨Nat.zero_le _, Nat.zero_le _⟩ (fun H locs hR => ?_)
      refine lv_aload_n hx hb dX7_want_45 rfl (lv_at hl 0 rfl) ?_
      refine lv_iconst (v := nI 1) hx hb dX7_want_46 (by decide) ?_
      refine lv_iload_n hx hb dX7_want_47 rfl (lv_at hl 1 rfl) ?_
      refine lv_iconst (v := nI 0) hx hb dX7_want_48 (by decide) ?_
      refine gcVv (As := [.int (nI 1), .int (nI x), .int (nI 0)]) F hK hR hml cv_X7_122 (o := 0) rfl rfl rfl (c_X7_push l G A adr (sp_tell (m2 S 12 x (nI 1)) ev (nI 0) (nI x)) X f (nI 1) (nI x) (nI 0) (hf0) (by omega)) ⟨rfl, rfl⟩ ⟨Nat.le_of_ble_eq_true rfl, Nat.le_of_ble_eq_true rfl⟩ rfl rfl hl.1 (Nat.le_of_ble_eq_true rfl) dX7_want_49 ⟨Nat.zero_le _, Nat.zero_le _⟩ (fun H locs hR => ?_)
      exact gr_v F hr hlk hK hR dX7_want_52 (by unfold rf_wantS rf_wantX; repeat (first | rw [if_pos c_7] | rw [if_neg c_7] | rw [if_neg (not_not_intro c_7)] | rw [if_pos c_29] | rw [if_neg c_29] | rw [if_neg (not_not_intro c_29)]))
  · refine lv_aload_n hx hb dX7_want_10 rfl (lv_at hl 0 rfl) ?_
    refine lv_aload_n hx hb dX7_want_11 rfl (lv_at hl 0 rfl) ?_
    refine lv_bipush (v := nI 8) hx hb dX7_want_12 (by decide) ?_
    refine gcVi (As := [.int (nI 8)]) F hK hR hml cv_X7_111 (o := 0) rfl rfl rfl (c_X7_arise l G A adr S X (nI 8)) ⟨rfl, rfl⟩ ⟨Nat.le_of_ble_eq_true rfl, Nat.le_of_ble_eq_true rfl⟩ rfl rfl hl.1 (Nat.le_of_ble_eq_true rfl) dX7_want_14 ⟨Nat.zero_le _, Nat.zero_le _⟩ (fun H locs hR => ?_)
    refine rp_31 F hK hR dX7_want_17 (fun H locs hR => ?_)
    refine lv_goto (tgt := 52) hx hb dX7_want_20 (by decide) ?_
    exact gr_v F hr hlk hK hR dX7_want_52 (by unfold rf_wantS rf_wantX; repeat (first | rw [if_pos c_7] | rw [if_neg c_7] | rw [if_neg (not_not_intro c_7)]))
set_option maxHeartbeats 4000000 in
set_option maxRecDepth 100000 in
/-- enter(x, m) -/
theorem c_X7_enter (l : Launch) (G : gw_G) (A : Nat → Prop) (adr : Nat → Nat) (S X : Nat → Nat → Int32) (wi f : Nat) (ra rb : Int32) (hwi : X 21 0 = nI wi) (hw8 : wi ≤ 8) (hf0 : X 22 0 = nI f) (hf : f < 300) : gm l yX7_enter cX7_enter 3 none (rmL 1) 0 0 A [.ref (adr 0), .int ra, .int rb] (gW G A adr (rcel G adr S X)) (gW G A adr (rcel G adr (rf_entS S wi) (rf_entX X wi f ra rb))) none := by
  refine gm_of (own := RX7) (by decide) rfl (Nat.le_of_ble_eq_true rfl) ?_
  intro p e s m below meth c ls F hml hr hlk hnm hK hR hl
  have hx := F.1
  have hb := F.2.1
  have hl : lv_has ls 3 [(0, .ref (adr 0)), (1, .int ra), (2, .int rb)] := hl
  refine lv_aload_n hx hb dX7_enter_0 rfl (lv_at hl 0 rfl) ?_
  refine rg_21 F hK hR dX7_enter_1 ?_
  refine lv_eq (hwi) ?_
  refine lv_bipush (v := nI 8) hx hb dX7_enter_4 (by decide) ?_
  refine nv_icmp_ne (by omega) (by omega) hx hb dX7_enter_6 (tgt := 22) (by decide) (fun c_6 => ?_) (fun c_6 => ?_)
  · refine lv_aload_n hx hb dX7_enter_22 rfl (lv_at hl 0 rfl) ?_
    refine lv_dup hx hb dX7_enter_23 rfl ?_
    refine rg_21 F hK hR dX7_enter_24 ?_
    refine lv_eq (hwi) ?_
    refine lv_iconst (v := nI 1) hx hb dX7_enter_27 (by decide) ?_
    refine nv_iadd hx hb dX7_enter_28 ?_
    refine rp_21 F hK hR dX7_enter_29 (fun H locs hR => ?_)
    refine lv_aload_n hx hb dX7_enter_32 rfl (lv_at hl 0 rfl) ?_
    refine lv_iconst (v := nI 0) hx hb dX7_enter_33 (by decide) ?_
    refine lv_iload_n hx hb dX7_enter_34 rfl (lv_at hl 1 rfl) ?_
    refine lv_iload_n hx hb dX7_enter_35 rfl (lv_at hl 2 rfl) ?_
    refine gcVv (As := [.int (nI 0), .int ra, .int rb]) F hK hR hml cv_X7_122 (o := 0) rfl rfl rfl (c_X7_push l G A adr S (m2 X 21 0 (nI (wi + 1))) f (nI 0) ra rb ((m2_nk (by decide)).trans (hf0)) (by omega)) ⟨rfl, rfl⟩ ⟨Nat.le_of_ble_eq_true rfl, Nat.le_of_ble_eq_true rfl⟩ rfl rfl hl.1 (Nat.le_of_ble_eq_true rfl) dX7_enter_36 ⟨Nat.zero_le _, Nat.zero_le _⟩ (fun H locs hR => ?_)
    exact gr_v F hr hlk hK hR dX7_enter_39 (by unfold rf_entS rf_entX; repeat (first | rw [if_pos c_6] | rw [if_neg c_6] | rw [if_neg (not_not_intro c_6)]))
  · refine lv_aload_n hx hb dX7_enter_9 rfl (lv_at hl 0 rfl) ?_
    refine lv_aload_n hx hb dX7_enter_10 rfl (lv_at hl 0 rfl) ?_
    refine lv_bipush (v := nI 9) hx hb dX7_enter_11 (by decide) ?_
    refine gcVi (As := [.int (nI 9)]) F hK hR hml cv_X7_111 (o := 0) rfl rfl rfl (c_X7_arise l G A adr S X (nI 9)) ⟨rfl, rfl⟩ ⟨Nat.le_of_ble_eq_true rfl, Nat.le_of_ble_eq_true rfl⟩ rfl rfl hl.1 (Nat.le_of_ble_eq_true rfl) dX7_enter_13 ⟨Nat.zero_le _, Nat.zero_le _⟩ (fun H locs hR => ?_)
    refine rp_31 F hK hR dX7_enter_16 (fun H locs hR => ?_)
    refine lv_goto (tgt := 39) hx hb dX7_enter_19 (by decide) ?_
    exact gr_v F hr hlk hK hR dX7_enter_39 (by unfold rf_entS rf_entX; repeat (first | rw [if_pos c_6] | rw [if_neg c_6] | rw [if_neg (not_not_intro c_6)]))
set_option maxHeartbeats 4000000 in
set_option maxRecDepth 100000 in
/-- wants(what, a, b, c) -/
theorem c_X7_wants (l : Launch) (G : gw_G) (A : Nat → Prop) (adr : Nat → Nat) (S X : Nat → Nat → Int32) (so : Nat) (ra rb rc : Int32) (hso : so ≤ 12) (hbc : 1 ≤ so → so ≤ 3 → ∃ z g, z < 12 ∧ g < 4 ∧ rb = nI z ∧ rc = nI g) : gm l yX7_wants cX7_wants 5 (some .int) (rmL 0) 0 0 A [.ref (adr 0), .int (nI so), .int ra, .int rb, .int rc] (gW G A adr (rcel G adr S X)) (gW G A adr (rcel G adr S X)) (some (.int (rf_wants S so ra rb rc))) := by
  refine gm_of (own := RX7) (by decide) rfl (Nat.le_of_ble_eq_true rfl) ?_
  intro p e s m below meth c ls F hml hr hlk hnm hK hR hl
  have hx := F.1
  have hb := F.2.1
  have hl : lv_has ls 5 [(0, .ref (adr 0)), (1, .int (nI so)), (2, .int ra), (3, .int rb), (4, .int rc)] := hl
  refine lv_iload_n hx hb dX7_wants_0 rfl (lv_at hl 1 rfl) ?_
  refine lv_iconst (v := nI 1) hx hb dX7_wants_1 (by decide) ?_
  refine nv_icmp_lt (by omega) (by omega) hx hb dX7_wants_2 (tgt := 30) (by decide) (fun c_2 => ?_) (fun c_2 => ?_)
  · have n_2 : ¬ (1 ≤ so) := by omega
    refine lv_iload_n hx hb dX7_wants_30 rfl (lv_at hl 1 rfl) ?_
    refine lv_bipush (v := nI 7) hx hb dX7_wants_31 (by decide) ?_
    refine nv_icmp_eq (by omega) (by omega) hx hb dX7_wants_33 (tgt := 42) (by decide) (fun c_33 => ?_) (fun c_33 => ?_)
    · refine lv_iload_n hx hb dX7_wants_42 rfl (lv_at hl 2 rfl) ?_
      refine lv_goto (tgt := 47) hx hb dX7_wants_43 (by decide) ?_
      exact gr_i F hr hlk hK hR dX7_wants_47 (by unfold rf_wants rf_wants2; repeat (first | rw [if_pos c_2] | rw [if_neg c_2] | rw [if_neg (not_not_intro c_2)] | rw [if_pos n_2] | rw [if_neg n_2] | rw [if_neg (not_not_intro n_2)] | rw [if_pos c_33] | rw [if_neg c_33] | rw [if_neg (not_not_intro c_33)])) (rfl)
    · refine lv_iload_n hx hb dX7_wants_36 rfl (lv_at hl 1 rfl) ?_
      refine lv_bipush (v := nI 8) hx hb dX7_wants_37 (by decide) ?_
      refine nv_icmp_ne (by omega) (by omega) hx hb dX7_wants_39 (tgt := 46) (by decide) (fun c_39 => ?_) (fun c_39 => ?_)
      · refine lv_iconst (v := (-1)) hx hb dX7_wants_46 (by decide) ?_
        exact gr_i F hr hlk hK hR dX7_wants_47 (by unfold rf_wants rf_wants2; repeat (first | rw [if_pos c_2] | rw [if_neg c_2] | rw [if_neg (not_not_intro c_2)] | rw [if_pos n_2] | rw [if_neg n_2] | rw [if_neg (not_not_intro n_2)] | rw [if_pos c_33] | rw [if_neg c_33] | rw [if_neg (not_not_intro c_33)] | rw [if_pos c_39] | rw [if_neg c_39] | rw [if_neg (not_not_intro c_39)])) (rfl)
      · refine lv_iload_n hx hb dX7_wants_42 rfl (lv_at hl 2 rfl) ?_
        refine lv_goto (tgt := 47) hx hb dX7_wants_43 (by decide) ?_
        exact gr_i F hr hlk hK hR dX7_wants_47 (by unfold rf_wants rf_wants2; repeat (first | rw [if_pos c_2] | rw [if_neg c_2] | rw [if_neg (not_not_intro c_2)] | rw [if_pos n_2] | rw [if_neg n_2] | rw [if_neg (not_not_intro n_2)] | rw [if_pos c_33] | rw [if_neg c_33] | rw [if_neg (not_not_intro c_33)] | rw [if_pos c_39] | rw [if_neg c_39] | rw [if_neg (not_not_intro c_39)])) (rfl)
  · have n_2 : ¬ (so < 1) := by omega
    refine lv_iload_n hx hb dX7_wants_5 rfl (lv_at hl 1 rfl) ?_
    refine lv_iconst (v := nI 3) hx hb dX7_wants_6 (by decide) ?_
    refine nv_icmp_gt (by omega) (by omega) hx hb dX7_wants_7 (tgt := 30) (by decide) (fun c_7 => ?_) (fun c_7 => ?_)
    · have n_7 : ¬ (so ≤ 3) := by omega
      refine lv_iload_n hx hb dX7_wants_30 rfl (lv_at hl 1 rfl) ?_
      refine lv_bipush (v := nI 7) hx hb dX7_wants_31 (by decide) ?_
      refine nv_icmp_eq (by omega) (by omega) hx hb dX7_wants_33 (tgt := 42) (by decide) (fun c_33 => ?_) (fun c_33 => ?_)
      · refine lv_iload_n hx hb dX7_wants_42 rfl (lv_at hl 2 rfl) ?_
        refine lv_goto (tgt := 47) hx hb dX7_wants_43 (by decide) ?_
        exact gr_i F hr hlk hK hR dX7_wants_47 (by unfold rf_wants rf_wants2; repeat (first | rw [if_pos c_2] | rw [if_neg c_2] | rw [if_neg (not_not_intro c_2)] | rw [if_pos n_2] | rw [if_neg n_2] | rw [if_neg (not_not_intro n_2)] | rw [if_pos c_7] | rw [if_neg c_7] | rw [if_neg (not_not_intro c_7)] | rw [if_pos n_7] | rw [if_neg n_7] | rw [if_neg (not_not_intro n_7)] | rw [if_pos c_33] | rw [if_neg c_33] | rw [if_neg (not_not_intro c_33)])) (rfl)
      · refine lv_iload_n hx hb dX7_wants_36 rfl (lv_at hl 1 rfl) ?_
        refine lv_bipush (v := nI 8) hx hb dX7_wants_37 (by decide) ?_
        refine nv_icmp_ne (by omega) (by omega) hx hb dX7_wants_39 (tgt := 46) (by decide) (fun c_39 => ?_) (fun c_39 => ?_)
        · refine lv_iconst (v := (-1)) hx hb dX7_wants_46 (by decide) ?_
          exact gr_i F hr hlk hK hR dX7_wants_47 (by unfold rf_wants rf_wants2; repeat (first | rw [if_pos c_2] | rw [if_neg c_2] | rw [if_neg (not_not_intro c_2)] | rw [if_pos n_2] | rw [if_neg n_2] | rw [if_neg (not_not_intro n_2)] | rw [if_pos c_7] | rw [if_neg c_7] | rw [if_neg (not_not_intro c_7)] | rw [if_pos n_7] | rw [if_neg n_7] | rw [if_neg (not_not_intro n_7)] | rw [if_pos c_33] | rw [if_neg c_33] | rw [if_neg (not_not_intro c_33)] | rw [if_pos c_39] | rw [if_neg c_39] | rw [if_neg (not_not_intro c_39)])) (rfl)
        · refine lv_iload_n hx hb dX7_wants_42 rfl (lv_at hl 2 rfl) ?_
          refine lv_goto (tgt := 47) hx hb dX7_wants_43 (by decide) ?_
          exact gr_i F hr hlk hK hR dX7_wants_47 (by unfold rf_wants rf_wants2; repeat (first | rw [if_pos c_2] | rw [if_neg c_2] | rw [if_neg (not_not_intro c_2)] | rw [if_pos n_2] | rw [if_neg n_2] | rw [if_neg (not_not_intro n_2)] | rw [if_pos c_7] | rw [if_neg c_7] | rw [if_neg (not_not_intro c_7)] | rw [if_pos n_7] | rw [if_neg n_7] | rw [if_neg (not_not_intro n_7)] | rw [if_pos c_33] | rw [if_neg c_33] | rw [if_neg (not_not_intro c_33)] | rw [if_pos c_39] | rw [if_neg c_39] | rw [if_neg (not_not_intro c_39)])) (rfl)
    · have n_7 : ¬ (3 < so) := by omega
      obtain ⟨z, g, hz, hg, rfl, rfl⟩ := hbc (by omega) (by omega)
      refine lv_aload_n hx hb dX7_wants_10 rfl (lv_at hl 0 rfl) ?_
      refine rg_7 F hK hR dX7_wants_11 ?_
      refine lv_iconst (v := nI 4) hx hb dX7_wants_14 (by decide) ?_
      refine lv_iload_n hx hb dX7_wants_15 rfl (lv_at hl 3 rfl) ?_
      refine nv_imul hx hb dX7_wants_16 ?_
      refine lv_iload hx hb dX7_wants_17 (lv_at hl 4 rfl) ?_
      refine nv_iadd hx hb dX7_wants_19 ?_
      refine ri_7 F hK hR (by omega) dX7_wants_20 ?_
      refine lv_if_eq (tgt := 28) hx hb dX7_wants_21 (by decide) (fun c_21 => ?_) (fun c_21 => ?_)
      · refine lv_iload_n hx hb dX7_wants_28 rfl (lv_at hl 3 rfl) ?_
        exact gr_i F hr hlk hK hR dX7_wants_29 (by unfold rf_wants; rw [if_neg (by omega), if_neg (by omega), nI_clamp (n := z) (by omega), nI_clamp (n := g) (by omega)]; repeat (first | rw [if_pos c_2] | rw [if_neg c_2] | rw [if_neg (not_not_intro c_2)] | rw [if_pos n_2] | rw [if_neg n_2] | rw [if_neg (not_not_intro n_2)] | rw [if_pos c_7] | rw [if_neg c_7] | rw [if_neg (not_not_intro c_7)] | rw [if_pos n_7] | rw [if_neg n_7] | rw [if_neg (not_not_intro n_7)] | rw [if_pos c_21] | rw [if_neg c_21] | rw [if_neg (not_not_intro c_21)])) (rfl)
      · refine lv_iconst (v := (-1)) hx hb dX7_wants_24 (by decide) ?_
        refine lv_goto (tgt := 29) hx hb dX7_wants_25 (by decide) ?_
        exact gr_i F hr hlk hK hR dX7_wants_29 (by unfold rf_wants; rw [if_neg (by omega), if_neg (by omega), nI_clamp (n := z) (by omega), nI_clamp (n := g) (by omega)]; repeat (first | rw [if_pos c_2] | rw [if_neg c_2] | rw [if_neg (not_not_intro c_2)] | rw [if_pos n_2] | rw [if_neg n_2] | rw [if_neg (not_not_intro n_2)] | rw [if_pos c_7] | rw [if_neg c_7] | rw [if_neg (not_not_intro c_7)] | rw [if_pos n_7] | rw [if_neg n_7] | rw [if_neg (not_not_intro n_7)] | rw [if_pos c_21] | rw [if_neg c_21] | rw [if_neg (not_not_intro c_21)])) (rfl)
set_option maxHeartbeats 4000000 in
set_option maxRecDepth 100000 in
/-- made(of) -/
theorem c_X7_made (l : Launch) (G : gw_G) (A : Nat → Prop) (adr : Nat → Nat) (S X : Nat → Nat → Int32) (n : Nat) (x0 : Int32) (hn0 : S 0 0 = nI n) (hn : n ≤ 12) : gm l yX7_made cX7_made 2 (some .int) (rmL 1) 0 0 A [.ref (adr 0), .int x0] (gW G A adr (rcel G adr S X)) (gW G A adr (rcel G adr (sp_madeS S n x0) X)) (some (.int (sp_madeR S n x0))) := by
  refine gm_of (own := RX7) (by decide) rfl (Nat.le_of_ble_eq_true rfl) ?_
  intro p e s m below meth c ls F hml hr hlk hnm hK hR hl
  have hx := F.1
  have hb := F.2.1
  have hl : lv_has ls 2 [(0, .ref (adr 0)), (1, .int x0)] := hl
  refine lv_iload_n hx hb dX7_made_0 rfl (lv_at hl 1 rfl) ?_
  refine lv_iconst (v := (-1)) hx hb dX7_made_1 (by decide) ?_
  refine lv_icmp_eq (tgt := 16) hx hb dX7_made_2 (by decide) (fun c_2 => ?_) (fun c_2 => ?_)
  · refine lv_iload_n hx hb dX7_made_16 rfl (lv_at hl 1 rfl) ?_
    refine lv_iconst (v := (-1)) hx hb dX7_made_17 (by decide) ?_
    refine lv_icmp_eq (tgt := 33) hx hb dX7_made_18 (by decide) (fun c_18 => ?_) (fun c_18 => absurd c_2 c_18)
    have hE : sp_madeE S x0 = 0 := by rw [sp_madeE, if_pos c_2]
    refine lv_aload_n hx hb dX7_made_33 rfl (lv_at hl 0 rfl) ?_
    refine lv_iconst (v := nI 0) hx hb dX7_made_34 (by decide) ?_
    refine lv_iconst (v := nI 0) hx hb dX7_made_35 (by decide) ?_
    refine lv_iload_n hx hb dX7_made_36 rfl (lv_at hl 1 rfl) ?_
    refine gcVi (As := [.int (nI 0), .int (nI 0), .int x0]) F hK hR hml cv_X7_91 (o := 0) rfl rfl rfl (c_X7_make l G A adr S X n (nI 0) (nI 0) x0 (hn0) hn (by decide) (by decide)) ⟨rfl, rfl⟩ ⟨Nat.le_of_ble_eq_true rfl, Nat.le_of_ble_eq_true rfl⟩ rfl rfl hl.1 (Nat.le_of_ble_eq_true rfl) dX7_made_37 ⟨Nat.zero_le _, Nat.zero_le _⟩ (fun H locs hR => ?_)
    exact gr_i F hr hlk hK hR dX7_made_40 (by rw [sp_madeR, if_pos hE]) (by rw [sp_madeS, if_pos hE])
  · refine lv_aload_n hx hb dX7_made_5 rfl (lv_at hl 0 rfl) ?_
    refine lv_iload_n hx hb dX7_made_6 rfl (lv_at hl 1 rfl) ?_
    refine gcVi (As := [.int x0]) F hK hR hml cv_X7_87 (o := 0) rfl rfl rfl (c_X7_has l G A adr S X x0) ⟨rfl, rfl⟩ ⟨Nat.le_of_ble_eq_true rfl, Nat.le_of_ble_eq_true rfl⟩ rfl rfl hl.1 (Nat.le_of_ble_eq_true rfl) dX7_made_7 ⟨Nat.zero_le _, Nat.zero_le _⟩ (fun H locs hR => ?_)
    refine lv_if_ne (tgt := 16) hx hb dX7_made_10 (by decide) (fun c_10 => ?_) (fun c_10 => ?_)
    · obtain ⟨x, h_x, rfl⟩ := has_yes hn0 hn c_10
      refine lv_iload_n hx hb dX7_made_16 rfl (lv_at hl 1 rfl) ?_
      refine lv_iconst (v := (-1)) hx hb dX7_made_17 (by decide) ?_
      refine lv_icmp_eq (tgt := 33) hx hb dX7_made_18 (by decide) (fun c_18 => absurd c_18 (c_2)) (fun c_18 => ?_)
      refine lv_aload_n hx hb dX7_made_21 rfl (lv_at hl 0 rfl) ?_
      refine rg_1 F hK hR dX7_made_22 ?_
      refine lv_iload_n hx hb dX7_made_25 rfl (lv_at hl 1 rfl) ?_
      refine ri_1 F hK hR (by omega) dX7_made_26 ?_
      refine lv_if_eq (tgt := 33) hx hb dX7_made_27 (by decide) (fun c_27 => ?_) (fun c_27 => ?_)
      · have hE : sp_madeE S (nI x) = 0 := by rw [sp_madeE, if_neg c_2, if_neg c_10, nI_clamp (by omega), if_pos c_27]
        refine lv_aload_n hx hb dX7_made_33 rfl (lv_at hl 0 rfl) ?_
        refine lv_iconst (v := nI 0) hx hb dX7_made_34 (by decide) ?_
        refine lv_iconst (v := nI 0) hx hb dX7_made_35 (by decide) ?_
        refine lv_iload_n hx hb dX7_made_36 rfl (lv_at hl 1 rfl) ?_
        refine gcVi (As := [.int (nI 0), .int (nI 0), .int (nI x)]) F hK hR hml cv_X7_91 (o := 0) rfl rfl rfl (c_X7_make l G A adr S X n (nI 0) (nI 0) (nI x) (hn0) hn (by decide) (by decide)) ⟨rfl, rfl⟩ ⟨Nat.le_of_ble_eq_true rfl, Nat.le_of_ble_eq_true rfl⟩ rfl rfl hl.1 (Nat.le_of_ble_eq_true rfl) dX7_made_37 ⟨Nat.zero_le _, Nat.zero_le _⟩ (fun H locs hR => ?_)
        exact gr_i F hr hlk hK hR dX7_made_40 (by rw [sp_madeR, if_pos hE]) (by rw [sp_madeS, if_pos hE])
      · have hE : sp_madeE S (nI x) = -4 := by rw [sp_madeE, if_neg c_2, if_neg c_10, nI_clamp (by omega), if_neg c_27]
        refine lv_bipush (v := (-4)) hx hb dX7_made_30 (by decide) ?_
        exact gr_i F hr hlk hK hR dX7_made_32 (by rw [sp_madeR, if_neg (by rw [hE]; decide), hE]) (by rw [sp_madeS, if_neg (by rw [hE]; decide)])
    · have hE : sp_madeE S x0 = -2 := by rw [sp_madeE, if_neg c_2, if_pos c_10]
      refine lv_bipush (v := (-2)) hx hb dX7_made_13 (by decide) ?_
      exact gr_i F hr hlk hK hR dX7_made_15 (by rw [sp_madeR, if_neg (by rw [hE]; decide), hE]) (by rw [sp_madeS, if_neg (by rw [hE]; decide)])
set_option maxHeartbeats 4000000 in
set_option maxRecDepth 100000 in
/-- face(defaults) -/
theorem c_X7_face (l : Launch) (G : gw_G) (A : Nat → Prop) (adr : Nat → Nat) (S X : Nat → Nat → Int32) (n : Nat) (de : Int32) (hn0 : S 0 0 = nI n) (hn : n ≤ 12) (hde : de = 0 ∨ de = 1) : gm l yX7_face cX7_face 2 (some .int) (rmL 1) 0 0 A [.ref (adr 0), .int de] (gW G A adr (rcel G adr S X)) (gW G A adr (rcel G adr (sp_makeS S n (nI 1) de (-1)) X)) (some (.int (sp_makeR n))) := by
  refine gm_of (own := RX7) (by decide) rfl (Nat.le_of_ble_eq_true rfl) ?_
  intro p e s m below meth c ls F hml hr hlk hnm hK hR hl
  have hx := F.1
  have hb := F.2.1
  have hl : lv_has ls 2 [(0, .ref (adr 0)), (1, .int de)] := hl
  refine lv_aload_n hx hb dX7_face_0 rfl (lv_at hl 0 rfl) ?_
  refine lv_iconst (v := nI 1) hx hb dX7_face_1 (by decide) ?_
  refine lv_iload_n hx hb dX7_face_2 rfl (lv_at hl 1 rfl) ?_
  refine lv_iconst (v := (-1)) hx hb dX7_face_3 (by decide) ?_
  refine gcVi (As := [.int (nI 1), .int de, .int (-1)]) F hK hR hml cv_X7_91 (o := 0) rfl rfl rfl (c_X7_make l G A adr S X n (nI 1) de (-1) (hn0) hn (by decide) (by assumption)) ⟨rfl, rfl⟩ ⟨Nat.le_of_ble_eq_true rfl, Nat.le_of_ble_eq_true rfl⟩ rfl rfl hl.1 (Nat.le_of_ble_eq_true rfl) dX7_face_4 ⟨Nat.zero_le _, Nat.zero_le _⟩ (fun H locs hR => ?_)
  exact gr_i F hr hlk hK hR dX7_face_7 (rfl) (rfl)
set_option maxHeartbeats 4000000 in
set_option maxRecDepth 100000 in
/-- constant(x, f, v) -/
theorem c_X7_constant (l : Launch) (G : gw_G) (A : Nat → Prop) (adr : Nat → Nat) (S X : Nat → Nat → Int32) (n : Nat) (x0 x1 x2 : Int32) (hn0 : S 0 0 = nI n) (hn : n ≤ 12) : gm l yX7_constant cX7_constant 4 (some .int) (rmL 1) 0 0 A [.ref (adr 0), .int x0, .int x1, .int x2] (gW G A adr (rcel G adr S X)) (gW G A adr (rcel G adr (sp_constS S x0 x1 x2) X)) (some (.int (sp_constE S x0 x1))) := by
  refine gm_of (own := RX7) (by decide) rfl (Nat.le_of_ble_eq_true rfl) ?_
  intro p e s m below meth c ls F hml hr hlk hnm hK hR hl
  have hx := F.1
  have hb := F.2.1
  have hl : lv_has ls 4 [(0, .ref (adr 0)), (1, .int x0), (2, .int x1), (3, .int x2)] := hl
  refine lv_aload_n hx hb dX7_constant_0 rfl (lv_at hl 0 rfl) ?_
  refine lv_iload_n hx hb dX7_constant_1 rfl (lv_at hl 1 rfl) ?_
  refine gcVi (As := [.int x0]) F hK hR hml cv_X7_87 (o := 0) rfl rfl rfl (c_X7_has l G A adr S X x0) ⟨rfl, rfl⟩ ⟨Nat.le_of_ble_eq_true rfl, Nat.le_of_ble_eq_true rfl⟩ rfl rfl hl.1 (Nat.le_of_ble_eq_true rfl) dX7_constant_2 ⟨Nat.zero_le _, Nat.zero_le _⟩ (fun H locs hR => ?_)
  refine lv_if_ne (tgt := 11) hx hb dX7_constant_5 (by decide) (fun c_5 => ?_) (fun c_5 => ?_)
  · obtain ⟨x, h_x, rfl⟩ := has_yes hn0 hn c_5
    refine lv_iload_n hx hb dX7_constant_11 rfl (lv_at hl 2 rfl) ?_
    refine gcS (As := [.int x1]) F hml cs_X7_95 (c_X7_isField l x1) ⟨rfl, rfl⟩ ⟨Nat.le_of_ble_eq_true rfl, Nat.le_of_ble_eq_true rfl⟩ rfl rfl hl.1 (Nat.le_of_ble_eq_true rfl) dX7_constant_12 ⟨Nat.zero_le _, Nat.zero_le _⟩ ?_
    refine lv_if_ne (tgt := 21) hx hb dX7_constant_15 (by decide) (fun c_15 => ?_) (fun c_15 => ?_)
    · obtain ⟨f, h_f, rfl⟩ := isF_yes c_15
      refine lv_aload_n hx hb dX7_constant_21 rfl (lv_at hl 0 rfl) ?_
      refine rg_7 F hK hR dX7_constant_22 ?_
      refine lv_iconst (v := nI 4) hx hb dX7_constant_25 (by decide) ?_
      refine lv_iload_n hx hb dX7_constant_26 rfl (lv_at hl 1 rfl) ?_
      refine nv_imul hx hb dX7_constant_27 ?_
      refine lv_iload_n hx hb dX7_constant_28 rfl (lv_at hl 2 rfl) ?_
      refine nv_iadd hx hb dX7_constant_29 ?_
      refine ri_7 F hK hR (by omega) dX7_constant_30 ?_
      refine lv_if_ne (tgt := 43) hx hb dX7_constant_31 (by decide) (fun c_31 => ?_) (fun c_31 => ?_)
      · have hE : sp_constE S (nI x) (nI f) = -4 := by unfold sp_constE; rw [nI_clamp (n := x) (by omega), nI_clamp (n := f) (by omega)]; repeat (first | rw [if_pos c_5] | rw [if_neg c_5] | rw [if_neg (not_not_intro c_5)] | rw [if_pos c_15] | rw [if_neg c_15] | rw [if_neg (not_not_intro c_15)] | rw [if_pos c_31] | rw [if_neg c_31] | rw [if_neg (not_not_intro c_31)])
        refine lv_bipush (v := (-4)) hx hb dX7_constant_43 (by decide) ?_
        exact gr_i F hr hlk hK hR dX7_constant_45 (hE.symm) (by rw [sp_constS, if_neg (by rw [hE]; decide)])
      · refine lv_aload_n hx hb dX7_constant_34 rfl (lv_at hl 0 rfl) ?_
        refine rg_12 F hK hR dX7_constant_35 ?_
        refine lv_iload_n hx hb dX7_constant_38 rfl (lv_at hl 1 rfl) ?_
        refine ri_12 F hK hR (by omega) dX7_constant_39 ?_
        refine lv_if_eq (tgt := 46) hx hb dX7_constant_40 (by decide) (fun c_40 => ?_) (fun c_40 => ?_)
        · have hE : sp_constE S (nI x) (nI f) = nI 1 := by unfold sp_constE; rw [nI_clamp (n := x) (by omega), nI_clamp (n := f) (by omega)]; repeat (first | rw [if_pos c_5] | rw [if_neg c_5] | rw [if_neg (not_not_intro c_5)] | rw [if_pos c_15] | rw [if_neg c_15] | rw [if_neg (not_not_intro c_15)] | rw [if_pos c_31] | rw [if_neg c_31] | rw [if_neg (not_not_intro c_31)] | rw [if_pos c_40] | rw [if_neg c_40] | rw [if_neg (not_not_intro c_40)])
          refine lv_aload_n hx hb dX7_constant_46 rfl (lv_at hl 0 rfl) ?_
          refine rg_7 F hK hR dX7_constant_47 ?_
          refine lv_iconst (v := nI 4) hx hb dX7_constant_50 (by decide) ?_
          refine lv_iload_n hx hb dX7_constant_51 rfl (lv_at hl 1 rfl) ?_
          refine nv_imul hx hb dX7_constant_52 ?_
          refine lv_iload_n hx hb dX7_constant_53 rfl (lv_at hl 2 rfl) ?_
          refine nv_iadd hx hb dX7_constant_54 ?_
          refine lv_iconst (v := nI 1) hx hb dX7_constant_55 (by decide) ?_
          refine rs_7 F hK hR (by omega) (by decide) dX7_constant_56 (fun H locs hR => ?_)
          refine lv_aload_n hx hb dX7_constant_57 rfl (lv_at hl 0 rfl) ?_
          refine rg_6 F hK hR dX7_constant_58 ?_
          refine lv_iconst (v := nI 4) hx hb dX7_constant_61 (by decide) ?_
          refine lv_iload_n hx hb dX7_constant_62 rfl (lv_at hl 1 rfl) ?_
          refine nv_imul hx hb dX7_constant_63 ?_
          refine lv_iload_n hx hb dX7_constant_64 rfl (lv_at hl 2 rfl) ?_
          refine nv_iadd hx hb dX7_constant_65 ?_
          refine lv_iload_n hx hb dX7_constant_66 rfl (lv_at hl 3 rfl) ?_
          refine rs_6 F hK hR (by omega) dX7_constant_67 (fun H locs hR => ?_)
          refine lv_iconst (v := nI 1) hx hb dX7_constant_68 (by decide) ?_
          exact gr_i F hr hlk hK hR dX7_constant_69 (hE.symm) (by rw [sp_constS, if_pos hE, nI_clamp (by omega), nI_clamp (by omega)])
        · have hE : sp_constE S (nI x) (nI f) = -4 := by unfold sp_constE; rw [nI_clamp (n := x) (by omega), nI_clamp (n := f) (by omega)]; repeat (first | rw [if_pos c_5] | rw [if_neg c_5] | rw [if_neg (not_not_intro c_5)] | rw [if_pos c_15] | rw [if_neg c_15] | rw [if_neg (not_not_intro c_15)] | rw [if_pos c_31] | rw [if_neg c_31] | rw [if_neg (not_not_intro c_31)] | rw [if_pos c_40] | rw [if_neg c_40] | rw [if_neg (not_not_intro c_40)])
          refine lv_bipush (v := (-4)) hx hb dX7_constant_43 (by decide) ?_
          exact gr_i F hr hlk hK hR dX7_constant_45 (hE.symm) (by rw [sp_constS, if_neg (by rw [hE]; decide)])
    · have hE : sp_constE S (nI x) x1 = -3 := by unfold sp_constE; rw [nI_clamp (n := x) (by omega)]; repeat (first | rw [if_pos c_5] | rw [if_neg c_5] | rw [if_neg (not_not_intro c_5)] | rw [if_pos c_15] | rw [if_neg c_15] | rw [if_neg (not_not_intro c_15)])
      refine lv_bipush (v := (-3)) hx hb dX7_constant_18 (by decide) ?_
      exact gr_i F hr hlk hK hR dX7_constant_20 (hE.symm) (by rw [sp_constS, if_neg (by rw [hE]; decide)])
  · have hE : sp_constE S x0 x1 = -2 := by unfold sp_constE; repeat (first | rw [if_pos c_5] | rw [if_neg c_5] | rw [if_neg (not_not_intro c_5)])
    refine lv_bipush (v := (-2)) hx hb dX7_constant_8 (by decide) ?_
    exact gr_i F hr hlk hK hR dX7_constant_10 (hE.symm) (by rw [sp_constS, if_neg (by rw [hE]; decide)])
set_option maxHeartbeats 4000000 in
set_option maxRecDepth 100000 in
/-- areIn(sort, a, b, c) -/
theorem c_X7_areIn (l : Launch) (so : Nat) (ra rb rc : Int32) (hso : so ≤ 12) : gs l yX7_areIn cX7_areIn 4 (some .boolean) (rmL 1) [.int (nI so), .int ra, .int rb, .int rc] (sp_areIn so ra rb rc) := by
  refine gs_of (own := RX7) (by decide) rfl (Nat.le_of_ble_eq_true rfl) ?_
  intro p e s m below meth c ls F hml hr hlk hl
  have hx := F.1
  have hb := F.2.1
  have hl : lv_has ls 4 [(0, .int (nI so)), (1, .int ra), (2, .int rb), (3, .int rc)] := hl
  refine lv_iload_n hx hb dX7_areIn_0 rfl (lv_at hl 0 rfl) ?_
  rcases (show so = 0 ∨ so = 1 ∨ so = 2 ∨ so = 3 ∨ so = 4 ∨ so = 5 ∨ so = 6 ∨ so = 7 ∨ so = 8 ∨ so = 9 ∨ so = 10 ∨ so = 11 ∨ so = 12 by omega) with rfl | rfl | rfl | rfl | rfl | rfl | rfl | rfl | rfl | rfl | rfl | rfl | rfl
  · refine lv_tableIn (x := nI 0) (tgt := 64) hx hb dX7_areIn_1 (by decide) (by decide) (off := 63) (by decide) (by decide) ?_
    refine lv_iload_n hx hb dX7_areIn_64 rfl (lv_at hl 1 rfl) ?_
    refine gcS (As := [.int ra]) F hml cs_X7_95 (c_X7_isField l ra) ⟨rfl, rfl⟩ ⟨Nat.le_of_ble_eq_true rfl, Nat.le_of_ble_eq_true rfl⟩ rfl rfl hl.1 (Nat.le_of_ble_eq_true rfl) dX7_areIn_65 ⟨Nat.zero_le _, Nat.zero_le _⟩ ?_
    exact gs_z F hr hlk dX7_areIn_68 (sp_isF01 _) (by first | rfl | (simp only [sp_areIn]; skip))
  · refine lv_tableIn (x := nI 1) (tgt := 69) hx hb dX7_areIn_1 (by decide) (by decide) (off := 68) (by decide) (by decide) ?_
    refine lv_iload_n hx hb dX7_areIn_69 rfl (lv_at hl 1 rfl) ?_
    refine gcS (As := [.int ra]) F hml cs_X7_95 (c_X7_isField l ra) ⟨rfl, rfl⟩ ⟨Nat.le_of_ble_eq_true rfl, Nat.le_of_ble_eq_true rfl⟩ rfl rfl hl.1 (Nat.le_of_ble_eq_true rfl) dX7_areIn_70 ⟨Nat.zero_le _, Nat.zero_le _⟩ ?_
    refine lv_if_eq (tgt := 87) hx hb dX7_areIn_73 (by decide) (fun c_73 => ?_) (fun c_73 => ?_)
    · refine lv_iconst (v := nI 0) hx hb dX7_areIn_87 (by decide) ?_
      exact gs_z F hr hlk dX7_areIn_88 (by decide) (by first | rfl | (simp only [sp_areIn]; repeat (first | rw [if_pos c_73] | rw [if_neg c_73] | rw [if_neg (not_not_intro c_73)])))
    · refine lv_iload_n hx hb dX7_areIn_76 rfl (lv_at hl 3 rfl) ?_
      refine gcS (As := [.int rc]) F hml cs_X7_95 (c_X7_isField l rc) ⟨rfl, rfl⟩ ⟨Nat.le_of_ble_eq_true rfl, Nat.le_of_ble_eq_true rfl⟩ rfl rfl hl.1 (Nat.le_of_ble_eq_true rfl) dX7_areIn_77 ⟨Nat.zero_le _, Nat.zero_le _⟩ ?_
      refine lv_if_eq (tgt := 87) hx hb dX7_areIn_80 (by decide) (fun c_80 => ?_) (fun c_80 => ?_)
      · refine lv_iconst (v := nI 0) hx hb dX7_areIn_87 (by decide) ?_
        exact gs_z F hr hlk dX7_areIn_88 (by decide) (by first | rfl | (simp only [sp_areIn]; repeat (first | rw [if_pos c_73] | rw [if_neg c_73] | rw [if_neg (not_not_intro c_73)] | rw [if_pos c_80] | rw [if_neg c_80] | rw [if_neg (not_not_intro c_80)])))
      · refine lv_iconst (v := nI 1) hx hb dX7_areIn_83 (by decide) ?_
        refine lv_goto (tgt := 88) hx hb dX7_areIn_84 (by decide) ?_
        exact gs_z F hr hlk dX7_areIn_88 (by decide) (by first | rfl | (simp only [sp_areIn]; repeat (first | rw [if_pos c_73] | rw [if_neg c_73] | rw [if_neg (not_not_intro c_73)] | rw [if_pos c_80] | rw [if_neg c_80] | rw [if_neg (not_not_intro c_80)])))
  · refine lv_tableIn (x := nI 2) (tgt := 69) hx hb dX7_areIn_1 (by decide) (by decide) (off := 68) (by decide) (by decide) ?_
    refine lv_iload_n hx hb dX7_areIn_69 rfl (lv_at hl 1 rfl) ?_
    refine gcS (As := [.int ra]) F hml cs_X7_95 (c_X7_isField l ra) ⟨rfl, rfl⟩ ⟨Nat.le_of_ble_eq_true rfl, Nat.le_of_ble_eq_true rfl⟩ rfl rfl hl.1 (Nat.le_of_ble_eq_true rfl) dX7_areIn_70 ⟨Nat.zero_le _, Nat.zero_le _⟩ ?_
    refine lv_if_eq (tgt := 87) hx hb dX7_areIn_73 (by decide) (fun c_73 => ?_) (fun c_73 => ?_)
    · refine lv_iconst (v := nI 0) hx hb dX7_areIn_87 (by decide) ?_
      exact gs_z F hr hlk dX7_areIn_88 (by decide) (by first | rfl | (simp only [sp_areIn]; repeat (first | rw [if_pos c_73] | rw [if_neg c_73] | rw [if_neg (not_not_intro c_73)])))
    · refine lv_iload_n hx hb dX7_areIn_76 rfl (lv_at hl 3 rfl) ?_
      refine gcS (As := [.int rc]) F hml cs_X7_95 (c_X7_isField l rc) ⟨rfl, rfl⟩ ⟨Nat.le_of_ble_eq_true rfl, Nat.le_of_ble_eq_true rfl⟩ rfl rfl hl.1 (Nat.le_of_ble_eq_true rfl) dX7_areIn_77 ⟨Nat.zero_le _, Nat.zero_le _⟩ ?_
      refine lv_if_eq (tgt := 87) hx hb dX7_areIn_80 (by decide) (fun c_80 => ?_) (fun c_80 => ?_)
      · refine lv_iconst (v := nI 0) hx hb dX7_areIn_87 (by decide) ?_
        exact gs_z F hr hlk dX7_areIn_88 (by decide) (by first | rfl | (simp only [sp_areIn]; repeat (first | rw [if_pos c_73] | rw [if_neg c_73] | rw [if_neg (not_not_intro c_73)] | rw [if_pos c_80] | rw [if_neg c_80] | rw [if_neg (not_not_intro c_80)])))
      · refine lv_iconst (v := nI 1) hx hb dX7_areIn_83 (by decide) ?_
        refine lv_goto (tgt := 88) hx hb dX7_areIn_84 (by decide) ?_
        exact gs_z F hr hlk dX7_areIn_88 (by decide) (by first | rfl | (simp only [sp_areIn]; repeat (first | rw [if_pos c_73] | rw [if_neg c_73] | rw [if_neg (not_not_intro c_73)] | rw [if_pos c_80] | rw [if_neg c_80] | rw [if_neg (not_not_intro c_80)])))
  · refine lv_tableIn (x := nI 3) (tgt := 69) hx hb dX7_areIn_1 (by decide) (by decide) (off := 68) (by decide) (by decide) ?_
    refine lv_iload_n hx hb dX7_areIn_69 rfl (lv_at hl 1 rfl) ?_
    refine gcS (As := [.int ra]) F hml cs_X7_95 (c_X7_isField l ra) ⟨rfl, rfl⟩ ⟨Nat.le_of_ble_eq_true rfl, Nat.le_of_ble_eq_true rfl⟩ rfl rfl hl.1 (Nat.le_of_ble_eq_true rfl) dX7_areIn_70 ⟨Nat.zero_le _, Nat.zero_le _⟩ ?_
    refine lv_if_eq (tgt := 87) hx hb dX7_areIn_73 (by decide) (fun c_73 => ?_) (fun c_73 => ?_)
    · refine lv_iconst (v := nI 0) hx hb dX7_areIn_87 (by decide) ?_
      exact gs_z F hr hlk dX7_areIn_88 (by decide) (by first | rfl | (simp only [sp_areIn]; repeat (first | rw [if_pos c_73] | rw [if_neg c_73] | rw [if_neg (not_not_intro c_73)])))
    · refine lv_iload_n hx hb dX7_areIn_76 rfl (lv_at hl 3 rfl) ?_
      refine gcS (As := [.int rc]) F hml cs_X7_95 (c_X7_isField l rc) ⟨rfl, rfl⟩ ⟨Nat.le_of_ble_eq_true rfl, Nat.le_of_ble_eq_true rfl⟩ rfl rfl hl.1 (Nat.le_of_ble_eq_true rfl) dX7_areIn_77 ⟨Nat.zero_le _, Nat.zero_le _⟩ ?_
      refine lv_if_eq (tgt := 87) hx hb dX7_areIn_80 (by decide) (fun c_80 => ?_) (fun c_80 => ?_)
      · refine lv_iconst (v := nI 0) hx hb dX7_areIn_87 (by decide) ?_
        exact gs_z F hr hlk dX7_areIn_88 (by decide) (by first | rfl | (simp only [sp_areIn]; repeat (first | rw [if_pos c_73] | rw [if_neg c_73] | rw [if_neg (not_not_intro c_73)] | rw [if_pos c_80] | rw [if_neg c_80] | rw [if_neg (not_not_intro c_80)])))
      · refine lv_iconst (v := nI 1) hx hb dX7_areIn_83 (by decide) ?_
        refine lv_goto (tgt := 88) hx hb dX7_areIn_84 (by decide) ?_
        exact gs_z F hr hlk dX7_areIn_88 (by decide) (by first | rfl | (simp only [sp_areIn]; repeat (first | rw [if_pos c_73] | rw [if_neg c_73] | rw [if_neg (not_not_intro c_73)] | rw [if_pos c_80] | rw [if_neg c_80] | rw [if_neg (not_not_intro c_80)])))
  · refine lv_tableIn (x := nI 4) (tgt := 64) hx hb dX7_areIn_1 (by decide) (by decide) (off := 63) (by decide) (by decide) ?_
    refine lv_iload_n hx hb dX7_areIn_64 rfl (lv_at hl 1 rfl) ?_
    refine gcS (As := [.int ra]) F hml cs_X7_95 (c_X7_isField l ra) ⟨rfl, rfl⟩ ⟨Nat.le_of_ble_eq_true rfl, Nat.le_of_ble_eq_true rfl⟩ rfl rfl hl.1 (Nat.le_of_ble_eq_true rfl) dX7_areIn_65 ⟨Nat.zero_le _, Nat.zero_le _⟩ ?_
    exact gs_z F hr hlk dX7_areIn_68 (sp_isF01 _) (by first | rfl | (simp only [sp_areIn]; skip))
  · refine lv_tableIn (x := nI 5) (tgt := 89) hx hb dX7_areIn_1 (by decide) (by decide) (off := 88) (by decide) (by decide) ?_
    refine lv_iload_n hx hb dX7_areIn_89 rfl (lv_at hl 1 rfl) ?_
    refine gcS (As := [.int ra]) F hml cs_X7_95 (c_X7_isField l ra) ⟨rfl, rfl⟩ ⟨Nat.le_of_ble_eq_true rfl, Nat.le_of_ble_eq_true rfl⟩ rfl rfl hl.1 (Nat.le_of_ble_eq_true rfl) dX7_areIn_90 ⟨Nat.zero_le _, Nat.zero_le _⟩ ?_
    refine lv_if_eq (tgt := 107) hx hb dX7_areIn_93 (by decide) (fun c_93 => ?_) (fun c_93 => ?_)
    · refine lv_iconst (v := nI 0) hx hb dX7_areIn_107 (by decide) ?_
      exact gs_z F hr hlk dX7_areIn_108 (by decide) (by first | rfl | (simp only [sp_areIn]; repeat (first | rw [if_pos c_93] | rw [if_neg c_93] | rw [if_neg (not_not_intro c_93)])))
    · refine lv_iload_n hx hb dX7_areIn_96 rfl (lv_at hl 2 rfl) ?_
      refine gcS (As := [.int rb]) F hml cs_X7_95 (c_X7_isField l rb) ⟨rfl, rfl⟩ ⟨Nat.le_of_ble_eq_true rfl, Nat.le_of_ble_eq_true rfl⟩ rfl rfl hl.1 (Nat.le_of_ble_eq_true rfl) dX7_areIn_97 ⟨Nat.zero_le _, Nat.zero_le _⟩ ?_
      refine lv_if_eq (tgt := 107) hx hb dX7_areIn_100 (by decide) (fun c_100 => ?_) (fun c_100 => ?_)
      · refine lv_iconst (v := nI 0) hx hb dX7_areIn_107 (by decide) ?_
        exact gs_z F hr hlk dX7_areIn_108 (by decide) (by first | rfl | (simp only [sp_areIn]; repeat (first | rw [if_pos c_93] | rw [if_neg c_93] | rw [if_neg (not_not_intro c_93)] | rw [if_pos c_100] | rw [if_neg c_100] | rw [if_neg (not_not_intro c_100)])))
      · refine lv_iconst (v := nI 1) hx hb dX7_areIn_103 (by decide) ?_
        refine lv_goto (tgt := 108) hx hb dX7_areIn_104 (by decide) ?_
        exact gs_z F hr hlk dX7_areIn_108 (by decide) (by first | rfl | (simp only [sp_areIn]; repeat (first | rw [if_pos c_93] | rw [if_neg c_93] | rw [if_neg (not_not_intro c_93)] | rw [if_pos c_100] | rw [if_neg c_100] | rw [if_neg (not_not_intro c_100)])))
  · refine lv_tableIn (x := nI 6) (tgt := 89) hx hb dX7_areIn_1 (by decide) (by decide) (off := 88) (by decide) (by decide) ?_
    refine lv_iload_n hx hb dX7_areIn_89 rfl (lv_at hl 1 rfl) ?_
    refine gcS (As := [.int ra]) F hml cs_X7_95 (c_X7_isField l ra) ⟨rfl, rfl⟩ ⟨Nat.le_of_ble_eq_true rfl, Nat.le_of_ble_eq_true rfl⟩ rfl rfl hl.1 (Nat.le_of_ble_eq_true rfl) dX7_areIn_90 ⟨Nat.zero_le _, Nat.zero_le _⟩ ?_
    refine lv_if_eq (tgt := 107) hx hb dX7_areIn_93 (by decide) (fun c_93 => ?_) (fun c_93 => ?_)
    · refine lv_iconst (v := nI 0) hx hb dX7_areIn_107 (by decide) ?_
      exact gs_z F hr hlk dX7_areIn_108 (by decide) (by first | rfl | (simp only [sp_areIn]; repeat (first | rw [if_pos c_93] | rw [if_neg c_93] | rw [if_neg (not_not_intro c_93)])))
    · refine lv_iload_n hx hb dX7_areIn_96 rfl (lv_at hl 2 rfl) ?_
      refine gcS (As := [.int rb]) F hml cs_X7_95 (c_X7_isField l rb) ⟨rfl, rfl⟩ ⟨Nat.le_of_ble_eq_true rfl, Nat.le_of_ble_eq_true rfl⟩ rfl rfl hl.1 (Nat.le_of_ble_eq_true rfl) dX7_areIn_97 ⟨Nat.zero_le _, Nat.zero_le _⟩ ?_
      refine lv_if_eq (tgt := 107) hx hb dX7_areIn_100 (by decide) (fun c_100 => ?_) (fun c_100 => ?_)
      · refine lv_iconst (v := nI 0) hx hb dX7_areIn_107 (by decide) ?_
        exact gs_z F hr hlk dX7_areIn_108 (by decide) (by first | rfl | (simp only [sp_areIn]; repeat (first | rw [if_pos c_93] | rw [if_neg c_93] | rw [if_neg (not_not_intro c_93)] | rw [if_pos c_100] | rw [if_neg c_100] | rw [if_neg (not_not_intro c_100)])))
      · refine lv_iconst (v := nI 1) hx hb dX7_areIn_103 (by decide) ?_
        refine lv_goto (tgt := 108) hx hb dX7_areIn_104 (by decide) ?_
        exact gs_z F hr hlk dX7_areIn_108 (by decide) (by first | rfl | (simp only [sp_areIn]; repeat (first | rw [if_pos c_93] | rw [if_neg c_93] | rw [if_neg (not_not_intro c_93)] | rw [if_pos c_100] | rw [if_neg c_100] | rw [if_neg (not_not_intro c_100)])))
  · refine lv_tableIn (x := nI 7) (tgt := 109) hx hb dX7_areIn_1 (by decide) (by decide) (off := 108) (by decide) (by decide) ?_
    refine lv_iload_n hx hb dX7_areIn_109 rfl (lv_at hl 2 rfl) ?_
    refine lv_iconst (v := nI 1) hx hb dX7_areIn_110 (by decide) ?_
    refine lv_icmp_lt (tgt := 123) hx hb dX7_areIn_111 (by decide) (fun c_111 => ?_) (fun c_111 => ?_)
    · have n_111 := Int32.not_le.mpr c_111
      refine lv_iconst (v := nI 0) hx hb dX7_areIn_123 (by decide) ?_
      exact gs_z F hr hlk dX7_areIn_124 (by decide) (by first | rfl | (simp only [sp_areIn]; repeat (first | rw [if_pos c_111] | rw [if_neg c_111] | rw [if_neg (not_not_intro c_111)] | rw [if_pos n_111] | rw [if_neg n_111] | rw [if_neg (not_not_intro n_111)])))
    · have n_111 := Int32.not_lt.mp c_111
      refine lv_iload_n hx hb dX7_areIn_114 rfl (lv_at hl 2 rfl) ?_
      refine lv_iconst (v := nI 3) hx hb dX7_areIn_115 (by decide) ?_
      refine lv_icmp_gt (tgt := 123) hx hb dX7_areIn_116 (by decide) (fun c_116 => ?_) (fun c_116 => ?_)
      · have n_116 := Int32.not_le.mpr c_116
        refine lv_iconst (v := nI 0) hx hb dX7_areIn_123 (by decide) ?_
        exact gs_z F hr hlk dX7_areIn_124 (by decide) (by first | rfl | (simp only [sp_areIn]; repeat (first | rw [if_pos c_111] | rw [if_neg c_111] | rw [if_neg (not_not_intro c_111)] | rw [if_pos n_111] | rw [if_neg n_111] | rw [if_neg (not_not_intro n_111)] | rw [if_pos c_116] | rw [if_neg c_116] | rw [if_neg (not_not_intro c_116)] | rw [if_pos n_116] | rw [if_neg n_116] | rw [if_neg (not_not_intro n_116)])))
      · have n_116 := Int32.not_lt.mp c_116
        refine lv_iconst (v := nI 1) hx hb dX7_areIn_119 (by decide) ?_
        refine lv_goto (tgt := 124) hx hb dX7_areIn_120 (by decide) ?_
        exact gs_z F hr hlk dX7_areIn_124 (by decide) (by first | rfl | (simp only [sp_areIn]; repeat (first | rw [if_pos c_111] | rw [if_neg c_111] | rw [if_neg (not_not_intro c_111)] | rw [if_pos n_111] | rw [if_neg n_111] | rw [if_neg (not_not_intro n_111)] | rw [if_pos c_116] | rw [if_neg c_116] | rw [if_neg (not_not_intro c_116)] | rw [if_pos n_116] | rw [if_neg n_116] | rw [if_neg (not_not_intro n_116)])))
  · refine lv_tableIn (x := nI 8) (tgt := 168) hx hb dX7_areIn_1 (by decide) (by decide) (off := 167) (by decide) (by decide) ?_
    refine lv_iconst (v := nI 1) hx hb dX7_areIn_168 (by decide) ?_
    exact gs_z F hr hlk dX7_areIn_169 (by decide) (by first | rfl | (simp only [sp_areIn]; skip))
  · refine lv_tableIn (x := nI 9) (tgt := 125) hx hb dX7_areIn_1 (by decide) (by decide) (off := 124) (by decide) (by decide) ?_
    refine lv_iload_n hx hb dX7_areIn_125 rfl (lv_at hl 1 rfl) ?_
    refine lv_if_lt (tgt := 138) hx hb dX7_areIn_126 (by decide) (fun c_126 => ?_) (fun c_126 => ?_)
    · have n_126 := Int32.not_le.mpr c_126
      refine lv_iconst (v := nI 0) hx hb dX7_areIn_138 (by decide) ?_
      exact gs_z F hr hlk dX7_areIn_139 (by decide) (by first | rfl | (simp only [sp_areIn]; repeat (first | rw [if_pos c_126] | rw [if_neg c_126] | rw [if_neg (not_not_intro c_126)] | rw [if_pos n_126] | rw [if_neg n_126] | rw [if_neg (not_not_intro n_126)])))
    · have n_126 := Int32.not_lt.mp c_126
      refine lv_iload_n hx hb dX7_areIn_129 rfl (lv_at hl 1 rfl) ?_
      refine lv_iconst (v := nI 2) hx hb dX7_areIn_130 (by decide) ?_
      refine lv_icmp_gt (tgt := 138) hx hb dX7_areIn_131 (by decide) (fun c_131 => ?_) (fun c_131 => ?_)
      · have n_131 := Int32.not_le.mpr c_131
        refine lv_iconst (v := nI 0) hx hb dX7_areIn_138 (by decide) ?_
        exact gs_z F hr hlk dX7_areIn_139 (by decide) (by first | rfl | (simp only [sp_areIn]; repeat (first | rw [if_pos c_126] | rw [if_neg c_126] | rw [if_neg (not_not_intro c_126)] | rw [if_pos n_126] | rw [if_neg n_126] | rw [if_neg (not_not_intro n_126)] | rw [if_pos c_131] | rw [if_neg c_131] | rw [if_neg (not_not_intro c_131)] | rw [if_pos n_131] | rw [if_neg n_131] | rw [if_neg (not_not_intro n_131)])))
      · have n_131 := Int32.not_lt.mp c_131
        refine lv_iconst (v := nI 1) hx hb dX7_areIn_134 (by decide) ?_
        refine lv_goto (tgt := 139) hx hb dX7_areIn_135 (by decide) ?_
        exact gs_z F hr hlk dX7_areIn_139 (by decide) (by first | rfl | (simp only [sp_areIn]; repeat (first | rw [if_pos c_126] | rw [if_neg c_126] | rw [if_neg (not_not_intro c_126)] | rw [if_pos n_126] | rw [if_neg n_126] | rw [if_neg (not_not_intro n_126)] | rw [if_pos c_131] | rw [if_neg c_131] | rw [if_neg (not_not_intro c_131)] | rw [if_pos n_131] | rw [if_neg n_131] | rw [if_neg (not_not_intro n_131)])))
  · refine lv_tableIn (x := nI 10) (tgt := 168) hx hb dX7_areIn_1 (by decide) (by decide) (off := 167) (by decide) (by decide) ?_
    refine lv_iconst (v := nI 1) hx hb dX7_areIn_168 (by decide) ?_
    exact gs_z F hr hlk dX7_areIn_169 (by decide) (by first | rfl | (simp only [sp_areIn]; skip))
  · refine lv_tableIn (x := nI 11) (tgt := 140) hx hb dX7_areIn_1 (by decide) (by decide) (off := 139) (by decide) (by decide) ?_
    refine lv_iload_n hx hb dX7_areIn_140 rfl (lv_at hl 1 rfl) ?_
    refine lv_iconst (v := nI 1) hx hb dX7_areIn_141 (by decide) ?_
    refine lv_icmp_lt (tgt := 166) hx hb dX7_areIn_142 (by decide) (fun c_142 => ?_) (fun c_142 => ?_)
    · have n_142 := Int32.not_le.mpr c_142
      refine lv_iconst (v := nI 0) hx hb dX7_areIn_166 (by decide) ?_
      exact gs_z F hr hlk dX7_areIn_167 (by decide) (by first | rfl | (simp only [sp_areIn]; repeat (first | rw [if_pos c_142] | rw [if_neg c_142] | rw [if_neg (not_not_intro c_142)] | rw [if_pos n_142] | rw [if_neg n_142] | rw [if_neg (not_not_intro n_142)])))
    · have n_142 := Int32.not_lt.mp c_142
      refine lv_iload_n hx hb dX7_areIn_145 rfl (lv_at hl 1 rfl) ?_
      refine lv_bipush (v := nI 9) hx hb dX7_areIn_146 (by decide) ?_
      refine lv_icmp_gt (tgt := 166) hx hb dX7_areIn_148 (by decide) (fun c_148 => ?_) (fun c_148 => ?_)
      · have n_148 := Int32.not_le.mpr c_148
        refine lv_iconst (v := nI 0) hx hb dX7_areIn_166 (by decide) ?_
        exact gs_z F hr hlk dX7_areIn_167 (by decide) (by first | rfl | (simp only [sp_areIn]; repeat (first | rw [if_pos c_142] | rw [if_neg c_142] | rw [if_neg (not_not_intro c_142)] | rw [if_pos n_142] | rw [if_neg n_142] | rw [if_neg (not_not_intro n_142)] | rw [if_pos c_148] | rw [if_neg c_148] | rw [if_neg (not_not_intro c_148)] | rw [if_pos n_148] | rw [if_neg n_148] | rw [if_neg (not_not_intro n_148)])))
      · have n_148 := Int32.not_lt.mp c_148
        refine lv_iload_n hx hb dX7_areIn_151 rfl (lv_at hl 2 rfl) ?_
        refine lv_iconst (v := (-1)) hx hb dX7_areIn_152 (by decide) ?_
        refine lv_icmp_lt (tgt := 166) hx hb dX7_areIn_153 (by decide) (fun c_153 => ?_) (fun c_153 => ?_)
        · have n_153 := Int32.not_le.mpr c_153
          refine lv_iconst (v := nI 0) hx hb dX7_areIn_166 (by decide) ?_
          exact gs_z F hr hlk dX7_areIn_167 (by decide) (by first | rfl | (simp only [sp_areIn]; repeat (first | rw [if_pos c_142] | rw [if_neg c_142] | rw [if_neg (not_not_intro c_142)] | rw [if_pos n_142] | rw [if_neg n_142] | rw [if_neg (not_not_intro n_142)] | rw [if_pos c_148] | rw [if_neg c_148] | rw [if_neg (not_not_intro c_148)] | rw [if_pos n_148] | rw [if_neg n_148] | rw [if_neg (not_not_intro n_148)] | rw [if_pos c_153] | rw [if_neg c_153] | rw [if_neg (not_not_intro c_153)] | rw [if_pos n_153] | rw [if_neg n_153] | rw [if_neg (not_not_intro n_153)])))
        · have n_153 := Int32.not_lt.mp c_153
          refine lv_iload_n hx hb dX7_areIn_156 rfl (lv_at hl 2 rfl) ?_
          refine lv_bipush (v := nI 9) hx hb dX7_areIn_157 (by decide) ?_
          refine lv_icmp_gt (tgt := 166) hx hb dX7_areIn_159 (by decide) (fun c_159 => ?_) (fun c_159 => ?_)
          · have n_159 := Int32.not_le.mpr c_159
            refine lv_iconst (v := nI 0) hx hb dX7_areIn_166 (by decide) ?_
            exact gs_z F hr hlk dX7_areIn_167 (by decide) (by first | rfl | (simp only [sp_areIn]; repeat (first | rw [if_pos c_142] | rw [if_neg c_142] | rw [if_neg (not_not_intro c_142)] | rw [if_pos n_142] | rw [if_neg n_142] | rw [if_neg (not_not_intro n_142)] | rw [if_pos c_148] | rw [if_neg c_148] | rw [if_neg (not_not_intro c_148)] | rw [if_pos n_148] | rw [if_neg n_148] | rw [if_neg (not_not_intro n_148)] | rw [if_pos c_153] | rw [if_neg c_153] | rw [if_neg (not_not_intro c_153)] | rw [if_pos n_153] | rw [if_neg n_153] | rw [if_neg (not_not_intro n_153)] | rw [if_pos c_159] | rw [if_neg c_159] | rw [if_neg (not_not_intro c_159)] | rw [if_pos n_159] | rw [if_neg n_159] | rw [if_neg (not_not_intro n_159)])))
          · have n_159 := Int32.not_lt.mp c_159
            refine lv_iconst (v := nI 1) hx hb dX7_areIn_162 (by decide) ?_
            refine lv_goto (tgt := 167) hx hb dX7_areIn_163 (by decide) ?_
            exact gs_z F hr hlk dX7_areIn_167 (by decide) (by first | rfl | (simp only [sp_areIn]; repeat (first | rw [if_pos c_142] | rw [if_neg c_142] | rw [if_neg (not_not_intro c_142)] | rw [if_pos n_142] | rw [if_neg n_142] | rw [if_neg (not_not_intro n_142)] | rw [if_pos c_148] | rw [if_neg c_148] | rw [if_neg (not_not_intro c_148)] | rw [if_pos n_148] | rw [if_neg n_148] | rw [if_neg (not_not_intro n_148)] | rw [if_pos c_153] | rw [if_neg c_153] | rw [if_neg (not_not_intro c_153)] | rw [if_pos n_153] | rw [if_neg n_153] | rw [if_neg (not_not_intro n_153)] | rw [if_pos c_159] | rw [if_neg c_159] | rw [if_neg (not_not_intro c_159)] | rw [if_pos n_159] | rw [if_neg n_159] | rw [if_neg (not_not_intro n_159)])))
  · refine lv_tableOut (x := nI 12) (tgt := 168) hx hb dX7_areIn_1 (by decide) (by decide) ?_
    refine lv_iconst (v := nI 1) hx hb dX7_areIn_168 (by decide) ?_
    exact gs_z F hr hlk dX7_areIn_169 (by decide) (by first | rfl | (simp only [sp_areIn]; skip))
