/-! THE CLASS, 1: Kind, Journal, Act -/
def sp_isC (f : Int32) : Int32 := if f < nI 1 then nI 0 else if nI 4 ≤ f then nI 0 else nI 1
def sp_isK (S : Nat → Nat → Int32) (x f : Nat) : Int32 := if S 7 (4 * x + f) = 0 then nI 0 else nI 1
def sp_hasI (S : Nat → Nat → Int32) (x : Nat) (i : Int32) : Int32 := if i < 0 then nI 0 else if S 8 x - nI 1 ≤ i then nI 0 else nI 1
theorem isK_01 {S : Nat → Nat → Int32} {x f : Nat} : sp_isK S x f = 0 ∨ sp_isK S x f = 1 := by
  unfold sp_isK
  split
  · exact Or.inl rfl
  · exact Or.inr rfl
set_option maxHeartbeats 4000000 in
set_option maxRecDepth 100000 in
theorem c_X2_isField (l : Launch) (x0 : Int32)  : gs l yX2_isField cX2_isField 1 (some .boolean) (rmL 0) [.int x0] (sp_isF x0) := by
  refine gs_of (own := RX2) (by decide) rfl (Nat.le_of_ble_eq_true rfl) ?_
  intro p e s m below meth c ls F hml hr hlk hl
  have hx := F.1
  have hb := F.2.1
  replace hl : lv_has ls 1 [(0, .int x0)] := hl
  refine lv_iload_n hx hb dX2_isField_0 rfl (lv_at hl 0 rfl) ?_
  refine lv_if_lt (tgt := 13) hx hb dX2_isField_1 (by decide) (fun c_1 => ?_) (fun c_1 => ?_)
  · have n_1 := Int32.not_le.mpr c_1
    have hv : nI 0 = sp_isF x0 := by simp only [sp_isF, if_pos c_1]
    refine lv_iconst (v := nI 0) hx hb dX2_isField_13 (by decide) ?_
    exact gs_z F hr hlk dX2_isField_14 (by decide) hv
  · have n_1 := Int32.not_lt.mp c_1
    refine lv_iload_n hx hb dX2_isField_4 rfl (lv_at hl 0 rfl) ?_
    refine lv_iconst (v := nI 4) hx hb dX2_isField_5 (by decide) ?_
    refine lv_icmp_ge (tgt := 13) hx hb dX2_isField_6 (by decide) (fun c_6 => ?_) (fun c_6 => ?_)
    · have n_6 := Int32.not_lt.mpr c_6
      have hv : nI 0 = sp_isF x0 := by simp only [sp_isF, if_neg c_1, if_pos c_6]
      refine lv_iconst (v := nI 0) hx hb dX2_isField_13 (by decide) ?_
      exact gs_z F hr hlk dX2_isField_14 (by decide) hv
    · have n_6 := Int32.not_le.mp c_6
      have hv : nI 1 = sp_isF x0 := by simp only [sp_isF, if_neg c_1, if_neg c_6]
      refine lv_iconst (v := nI 1) hx hb dX2_isField_9 (by decide) ?_
      refine lv_goto (tgt := 14) hx hb dX2_isField_10 (by decide) ?_
      exact gs_z F hr hlk dX2_isField_14 (by decide) hv
set_option maxHeartbeats 4000000 in
set_option maxRecDepth 100000 in
theorem c_X2_isMethod (l : Launch) (x0 : Int32)  : gs l yX2_isMethod cX2_isMethod 1 (some .boolean) (rmL 0) [.int x0] (sp_isF x0) := by
  refine gs_of (own := RX2) (by decide) rfl (Nat.le_of_ble_eq_true rfl) ?_
  intro p e s m below meth c ls F hml hr hlk hl
  have hx := F.1
  have hb := F.2.1
  replace hl : lv_has ls 1 [(0, .int x0)] := hl
  refine lv_iload_n hx hb dX2_isMethod_0 rfl (lv_at hl 0 rfl) ?_
  refine lv_if_lt (tgt := 13) hx hb dX2_isMethod_1 (by decide) (fun c_1 => ?_) (fun c_1 => ?_)
  · have n_1 := Int32.not_le.mpr c_1
    have hv : nI 0 = sp_isF x0 := by simp only [sp_isF, if_pos c_1]
    refine lv_iconst (v := nI 0) hx hb dX2_isMethod_13 (by decide) ?_
    exact gs_z F hr hlk dX2_isMethod_14 (by decide) hv
  · have n_1 := Int32.not_lt.mp c_1
    refine lv_iload_n hx hb dX2_isMethod_4 rfl (lv_at hl 0 rfl) ?_
    refine lv_iconst (v := nI 4) hx hb dX2_isMethod_5 (by decide) ?_
    refine lv_icmp_ge (tgt := 13) hx hb dX2_isMethod_6 (by decide) (fun c_6 => ?_) (fun c_6 => ?_)
    · have n_6 := Int32.not_lt.mpr c_6
      have hv : nI 0 = sp_isF x0 := by simp only [sp_isF, if_neg c_1, if_pos c_6]
      refine lv_iconst (v := nI 0) hx hb dX2_isMethod_13 (by decide) ?_
      exact gs_z F hr hlk dX2_isMethod_14 (by decide) hv
    · have n_6 := Int32.not_le.mp c_6
      have hv : nI 1 = sp_isF x0 := by simp only [sp_isF, if_neg c_1, if_neg c_6]
      refine lv_iconst (v := nI 1) hx hb dX2_isMethod_9 (by decide) ?_
      refine lv_goto (tgt := 14) hx hb dX2_isMethod_10 (by decide) ?_
      exact gs_z F hr hlk dX2_isMethod_14 (by decide) hv
set_option maxHeartbeats 4000000 in
set_option maxRecDepth 100000 in
theorem c_X2_isCallable (l : Launch) (x0 : Int32)  : gs l yX2_isCallable cX2_isCallable 1 (some .boolean) (rmL 0) [.int x0] (sp_isC x0) := by
  refine gs_of (own := RX2) (by decide) rfl (Nat.le_of_ble_eq_true rfl) ?_
  intro p e s m below meth c ls F hml hr hlk hl
  have hx := F.1
  have hb := F.2.1
  replace hl : lv_has ls 1 [(0, .int x0)] := hl
  refine lv_iload_n hx hb dX2_isCallable_0 rfl (lv_at hl 0 rfl) ?_
  refine lv_iconst (v := nI 1) hx hb dX2_isCallable_1 (by decide) ?_
  refine lv_icmp_lt (tgt := 14) hx hb dX2_isCallable_2 (by decide) (fun c_2 => ?_) (fun c_2 => ?_)
  · have n_2 := Int32.not_le.mpr c_2
    have hv : nI 0 = sp_isC x0 := by simp only [sp_isC, if_pos c_2]
    refine lv_iconst (v := nI 0) hx hb dX2_isCallable_14 (by decide) ?_
    exact gs_z F hr hlk dX2_isCallable_15 (by decide) hv
  · have n_2 := Int32.not_lt.mp c_2
    refine lv_iload_n hx hb dX2_isCallable_5 rfl (lv_at hl 0 rfl) ?_
    refine lv_iconst (v := nI 4) hx hb dX2_isCallable_6 (by decide) ?_
    refine lv_icmp_ge (tgt := 14) hx hb dX2_isCallable_7 (by decide) (fun c_7 => ?_) (fun c_7 => ?_)
    · have n_7 := Int32.not_lt.mpr c_7
      have hv : nI 0 = sp_isC x0 := by simp only [sp_isC, if_neg c_2, if_pos c_7]
      refine lv_iconst (v := nI 0) hx hb dX2_isCallable_14 (by decide) ?_
      exact gs_z F hr hlk dX2_isCallable_15 (by decide) hv
    · have n_7 := Int32.not_le.mp c_7
      have hv : nI 1 = sp_isC x0 := by simp only [sp_isC, if_neg c_2, if_neg c_7]
      refine lv_iconst (v := nI 1) hx hb dX2_isCallable_10 (by decide) ?_
      refine lv_goto (tgt := 15) hx hb dX2_isCallable_11 (by decide) ?_
      exact gs_z F hr hlk dX2_isCallable_15 (by decide) hv
set_option maxHeartbeats 4000000 in
set_option maxRecDepth 100000 in
/-- Kind.bit() -/
theorem c_X2_bit (l : Launch) (G : gw_G) (A : Nat → Prop) (adr : Nat → Nat) (n : Nat) (S Y : Nat → Nat → Int32) (L : Int64) (x : Nat) (hxn : x < n) : gm l yX2_bit cX2_bit 1 (some .int) (rmL 0) 0 0 A [.ref (adr (nk x 0))] (gW G A adr (ccel G adr n S Y L)) (gW G A adr (ccel G adr n S Y L)) (some (.int (b1 x))) := by
  refine gm_of (own := RX2) (by decide) rfl (Nat.le_of_ble_eq_true rfl) ?_
  intro p e s m below meth c ls F hml hr hlk hnm hK hR hl
  have hx := F.1
  have hb := F.2.1
  replace hl : lv_has ls 1 [(0, .ref (adr (nk x 0)))] := hl
  refine lv_iconst (v := nI 1) hx hb dX2_bit_0 (by decide) ?_
  refine lv_aload_n hx hb dX2_bit_1 rfl (lv_at hl 0 rfl) ?_
  refine kg_0 F hK hR (by omega) fl_X2_42 dX2_bit_2 ?_
  refine lv_ishl hx hb dX2_bit_5 ?_
  exact gr_i F hr hlk hK hR dX2_bit_6 (rfl) (rfl)
set_option maxHeartbeats 4000000 in
set_option maxRecDepth 100000 in
/-- Kind.isConstant(f) -/
theorem c_X2_isConstant (l : Launch) (G : gw_G) (A : Nat → Prop) (adr : Nat → Nat) (n : Nat) (S Y : Nat → Nat → Int32) (L : Int64) (x f : Nat) (hxn : x < n) (hf : f < 4) : gm l yX2_isConstant cX2_isConstant 2 (some .boolean) (rmL 1) 0 0 A [.ref (adr (nk x 0)), .int (nI f)] (gW G A adr (ccel G adr n S Y L)) (gW G A adr (ccel G adr n S Y L)) (some (.int (sp_isK S x f))) := by
  refine gm_of (own := RX2) (by decide) rfl (Nat.le_of_ble_eq_true rfl) ?_
  intro p e s m below meth c ls F hml hr hlk hnm hK hR hl
  have hx := F.1
  have hb := F.2.1
  replace hl : lv_has ls 2 [(0, .ref (adr (nk x 0))), (1, .int (nI f))] := hl
  refine lv_iload_n hx hb dX2_isConstant_0 rfl (lv_at hl 1 rfl) ?_
  refine gcS (As := [.int (nI f)]) F hml cs_X2_59 (c_X2_isField l (nI f)) ⟨rfl, rfl⟩ ⟨Nat.le_of_ble_eq_true rfl, Nat.le_of_ble_eq_true rfl⟩ rfl rfl hl.1 (Nat.le_of_ble_eq_true rfl) dX2_isConstant_1 ⟨Nat.zero_le _, Nat.zero_le _⟩ ?_
  refine lv_if_eq (tgt := 20) hx hb dX2_isConstant_4 (by decide) (fun c_4 => absurd c_4 (by rw [isF_nI hf]; decide)) (fun c_4 => ?_)
  refine lv_aload_n hx hb dX2_isConstant_7 rfl (lv_at hl 0 rfl) ?_
  refine kg_7 F hK hR (by omega) fl_X2_23 dX2_isConstant_8 ?_
  refine lv_iload_n hx hb dX2_isConstant_11 rfl (lv_at hl 1 rfl) ?_
  refine ct_ld F hK hR (by omega) (by omega) dX2_isConstant_12 ?_
  refine lv_if_eq (tgt := 20) hx hb dX2_isConstant_13 (by decide) (fun c_13 => ?_) (fun c_13 => ?_)
  · refine lv_iconst (v := nI 0) hx hb dX2_isConstant_20 (by decide) ?_
    exact gr_z F hr hlk hK hR dX2_isConstant_21 (by decide) (by unfold sp_isK; repeat (first | rw [if_pos c_4] | rw [if_neg c_4] | rw [if_neg (not_not_intro c_4)] | rw [if_pos c_13] | rw [if_neg c_13] | rw [if_neg (not_not_intro c_13)])) (rfl)
  · refine lv_iconst (v := nI 1) hx hb dX2_isConstant_16 (by decide) ?_
    refine lv_goto (tgt := 21) hx hb dX2_isConstant_17 (by decide) ?_
    exact gr_z F hr hlk hK hR dX2_isConstant_21 (by decide) (by unfold sp_isK; repeat (first | rw [if_pos c_4] | rw [if_neg c_4] | rw [if_neg (not_not_intro c_4)] | rw [if_pos c_13] | rw [if_neg c_13] | rw [if_neg (not_not_intro c_13)])) (rfl)
set_option maxHeartbeats 4000000 in
set_option maxRecDepth 100000 in
/-- Kind.fix(f, value) -/
theorem c_X2_fix (l : Launch) (G : gw_G) (A : Nat → Prop) (adr : Nat → Nat) (n : Nat) (S Y : Nat → Nat → Int32) (L : Int64) (x f : Nat) (v : Int32) (hxn : x < n) (hf : f < 4) : gm l yX2_fix cX2_fix 3 none (rmL 1) 0 0 A [.ref (adr (nk x 0)), .int (nI f), .int v] (gW G A adr (ccel G adr n S Y L)) (gW G A adr (ccel G adr n (m2 (m2 S 7 (4 * x + f) (nI 1)) 6 (4 * x + f) v) Y L)) none := by
  refine gm_of (own := RX2) (by decide) rfl (Nat.le_of_ble_eq_true rfl) ?_
  intro p e s m below meth c ls F hml hr hlk hnm hK hR hl
  have hx := F.1
  have hb := F.2.1
  replace hl : lv_has ls 3 [(0, .ref (adr (nk x 0))), (1, .int (nI f)), (2, .int v)] := hl
  refine lv_iload_n hx hb dX2_fix_0 rfl (lv_at hl 1 rfl) ?_
  refine gcS (As := [.int (nI f)]) F hml cs_X2_59 (c_X2_isField l (nI f)) ⟨rfl, rfl⟩ ⟨Nat.le_of_ble_eq_true rfl, Nat.le_of_ble_eq_true rfl⟩ rfl rfl hl.1 (Nat.le_of_ble_eq_true rfl) dX2_fix_1 ⟨Nat.zero_le _, Nat.zero_le _⟩ ?_
  refine lv_if_eq (tgt := 21) hx hb dX2_fix_4 (by decide) (fun c_4 => absurd c_4 (by rw [isF_nI hf]; decide)) (fun c_4 => ?_)
  refine lv_aload_n hx hb dX2_fix_7 rfl (lv_at hl 0 rfl) ?_
  refine kg_6 F hK hR (by omega) fl_X2_19 dX2_fix_8 ?_
  refine lv_iload_n hx hb dX2_fix_11 rfl (lv_at hl 1 rfl) ?_
  refine lv_iload_n hx hb dX2_fix_12 rfl (lv_at hl 2 rfl) ?_
  refine fl_st F hK hR (by omega) (by omega) dX2_fix_13 (fun H locs hR => ?_)
  refine lv_aload_n hx hb dX2_fix_14 rfl (lv_at hl 0 rfl) ?_
  refine kg_7 F hK hR (by omega) fl_X2_23 dX2_fix_15 ?_
  refine lv_iload_n hx hb dX2_fix_18 rfl (lv_at hl 1 rfl) ?_
  refine lv_iconst (v := nI 1) hx hb dX2_fix_19 (by decide) ?_
  refine ct_st F hK hR (by omega) (by omega) (by decide) dX2_fix_20 (fun H locs hR => ?_)
  exact gr_v F hr hlk hK hR dX2_fix_21 (by rw [m2_cm (by decide)])
set_option maxHeartbeats 4000000 in
set_option maxRecDepth 100000 in
/-- Kind.valueOf(f) -/
theorem c_X2_valueOf (l : Launch) (G : gw_G) (A : Nat → Prop) (adr : Nat → Nat) (n : Nat) (S Y : Nat → Nat → Int32) (L : Int64) (x f : Nat) (hxn : x < n) (hf : f < 4) : gm l yX2_valueOf cX2_valueOf 2 (some .int) (rmL 1) 0 0 A [.ref (adr (nk x 0)), .int (nI f)] (gW G A adr (ccel G adr n S Y L)) (gW G A adr (ccel G adr n S Y L)) (some (.int (sp_get S x f))) := by
  refine gm_of (own := RX2) (by decide) rfl (Nat.le_of_ble_eq_true rfl) ?_
  intro p e s m below meth c ls F hml hr hlk hnm hK hR hl
  have hx := F.1
  have hb := F.2.1
  replace hl : lv_has ls 2 [(0, .ref (adr (nk x 0))), (1, .int (nI f))] := hl
  refine lv_iload_n hx hb dX2_valueOf_0 rfl (lv_at hl 1 rfl) ?_
  refine gcS (As := [.int (nI f)]) F hml cs_X2_59 (c_X2_isField l (nI f)) ⟨rfl, rfl⟩ ⟨Nat.le_of_ble_eq_true rfl, Nat.le_of_ble_eq_true rfl⟩ rfl rfl hl.1 (Nat.le_of_ble_eq_true rfl) dX2_valueOf_1 ⟨Nat.zero_le _, Nat.zero_le _⟩ ?_
  refine lv_if_eq (tgt := 16) hx hb dX2_valueOf_4 (by decide) (fun c_4 => absurd c_4 (by rw [isF_nI hf]; decide)) (fun c_4 => ?_)
  refine lv_aload_n hx hb dX2_valueOf_7 rfl (lv_at hl 0 rfl) ?_
  refine kg_6 F hK hR (by omega) fl_X2_19 dX2_valueOf_8 ?_
  refine lv_iload_n hx hb dX2_valueOf_11 rfl (lv_at hl 1 rfl) ?_
  refine fl_ld F hK hR (by omega) (by omega) dX2_valueOf_12 ?_
  refine lv_goto (tgt := 17) hx hb dX2_valueOf_13 (by decide) ?_
  exact gr_i F hr hlk hK hR dX2_valueOf_17 (rfl) (rfl)
set_option maxHeartbeats 4000000 in
set_option maxRecDepth 100000 in
/-- Kind.valueOf of any int -/
theorem c_X2_valueOfR (l : Launch) (G : gw_G) (A : Nat → Prop) (adr : Nat → Nat) (n : Nat) (S Y : Nat → Nat → Int32) (L : Int64) (x : Nat) (x0 : Int32) (hxn : x < n) : gm l yX2_valueOf cX2_valueOf 2 (some .int) (rmL 1) 0 0 A [.ref (adr (nk x 0)), .int x0] (gW G A adr (ccel G adr n S Y L)) (gW G A adr (ccel G adr n S Y L)) (some (.int (if sp_isF x0 = 0 then nI 0 else S 6 (4 * x + x0.toNatClampNeg)))) := by
  refine gm_of (own := RX2) (by decide) rfl (Nat.le_of_ble_eq_true rfl) ?_
  intro p e s m below meth c ls F hml hr hlk hnm hK hR hl
  have hx := F.1
  have hb := F.2.1
  replace hl : lv_has ls 2 [(0, .ref (adr (nk x 0))), (1, .int x0)] := hl
  refine lv_iload_n hx hb dX2_valueOf_0 rfl (lv_at hl 1 rfl) ?_
  refine gcS (As := [.int x0]) F hml cs_X2_59 (c_X2_isField l x0) ⟨rfl, rfl⟩ ⟨Nat.le_of_ble_eq_true rfl, Nat.le_of_ble_eq_true rfl⟩ rfl rfl hl.1 (Nat.le_of_ble_eq_true rfl) dX2_valueOf_1 ⟨Nat.zero_le _, Nat.zero_le _⟩ ?_
  refine lv_if_eq (tgt := 16) hx hb dX2_valueOf_4 (by decide) (fun c_4 => ?_) (fun c_4 => ?_)
  · refine lv_iconst (v := nI 0) hx hb dX2_valueOf_16 (by decide) ?_
    exact gr_i F hr hlk hK hR dX2_valueOf_17 (by rw [if_pos c_4]) (rfl)
  · obtain ⟨f, h_f, rfl⟩ := isF_yes c_4
    refine lv_aload_n hx hb dX2_valueOf_7 rfl (lv_at hl 0 rfl) ?_
    refine kg_6 F hK hR (by omega) fl_X2_19 dX2_valueOf_8 ?_
    refine lv_iload_n hx hb dX2_valueOf_11 rfl (lv_at hl 1 rfl) ?_
    refine fl_ld F hK hR (by omega) (by omega) dX2_valueOf_12 ?_
    refine lv_goto (tgt := 17) hx hb dX2_valueOf_13 (by decide) ?_
    exact gr_i F hr hlk hK hR dX2_valueOf_17 (by rw [if_neg c_4, nI_clamp (by omega)]) (rfl)
set_option maxHeartbeats 4000000 in
set_option maxRecDepth 100000 in
/-- Kind.change(f, value) -/
theorem c_X2_change (l : Launch) (G : gw_G) (A : Nat → Prop) (adr : Nat → Nat) (n : Nat) (S Y : Nat → Nat → Int32) (L : Int64) (x f : Nat) (v : Int32) (hxn : x < n) (hf : f < 4) : gm l yX2_change cX2_change 3 none (rmL 1) 0 0 A [.ref (adr (nk x 0)), .int (nI f), .int v] (gW G A adr (ccel G adr n S Y L)) (gW G A adr (ccel G adr n (sp_set S x f v) Y L)) none := by
  refine gm_of (own := RX2) (by decide) rfl (Nat.le_of_ble_eq_true rfl) ?_
  intro p e s m below meth c ls F hml hr hlk hnm hK hR hl
  have hx := F.1
  have hb := F.2.1
  replace hl : lv_has ls 3 [(0, .ref (adr (nk x 0))), (1, .int (nI f)), (2, .int v)] := hl
  refine lv_iload_n hx hb dX2_change_0 rfl (lv_at hl 1 rfl) ?_
  refine gcS (As := [.int (nI f)]) F hml cs_X2_59 (c_X2_isField l (nI f)) ⟨rfl, rfl⟩ ⟨Nat.le_of_ble_eq_true rfl, Nat.le_of_ble_eq_true rfl⟩ rfl rfl hl.1 (Nat.le_of_ble_eq_true rfl) dX2_change_1 ⟨Nat.zero_le _, Nat.zero_le _⟩ ?_
  refine lv_if_eq (tgt := 23) hx hb dX2_change_4 (by decide) (fun c_4 => absurd c_4 (by rw [isF_nI hf]; decide)) (fun c_4 => ?_)
  refine lv_aload_n hx hb dX2_change_7 rfl (lv_at hl 0 rfl) ?_
  refine kg_7 F hK hR (by omega) fl_X2_23 dX2_change_8 ?_
  refine lv_iload_n hx hb dX2_change_11 rfl (lv_at hl 1 rfl) ?_
  refine ct_ld F hK hR (by omega) (by omega) dX2_change_12 ?_
  refine lv_if_ne (tgt := 23) hx hb dX2_change_13 (by decide) (fun c_13 => ?_) (fun c_13 => ?_)
  · exact gr_v F hr hlk hK hR dX2_change_23 (by unfold sp_set; repeat (first | rw [if_pos c_4] | rw [if_neg c_4] | rw [if_neg (not_not_intro c_4)] | rw [if_pos c_13] | rw [if_neg c_13] | rw [if_neg (not_not_intro c_13)]))
  · refine lv_aload_n hx hb dX2_change_16 rfl (lv_at hl 0 rfl) ?_
    refine kg_6 F hK hR (by omega) fl_X2_19 dX2_change_17 ?_
    refine lv_iload_n hx hb dX2_change_20 rfl (lv_at hl 1 rfl) ?_
    refine lv_iload_n hx hb dX2_change_21 rfl (lv_at hl 2 rfl) ?_
    refine fl_st F hK hR (by omega) (by omega) dX2_change_22 (fun H locs hR => ?_)
    exact gr_v F hr hlk hK hR dX2_change_23 (by unfold sp_set; repeat (first | rw [if_pos c_4] | rw [if_neg c_4] | rw [if_neg (not_not_intro c_4)] | rw [if_pos c_13] | rw [if_neg c_13] | rw [if_neg (not_not_intro c_13)]))
set_option maxHeartbeats 4000000 in
set_option maxRecDepth 100000 in
/-- Kind.dropRow() -/
theorem c_X2_dropRow (l : Launch) (G : gw_G) (A : Nat → Prop) (adr : Nat → Nat) (n : Nat) (S Y : Nat → Nat → Int32) (L : Int64) (x : Nat) (hxn : x < n) : gm l yX2_dropRow cX2_dropRow 1 none (rmL 0) 0 0 A [.ref (adr (nk x 0))] (gW G A adr (ccel G adr n S Y L)) (gW G A adr (ccel G adr n (m2 S 8 x (nI 0)) Y L)) none := by
  refine gm_of (own := RX2) (by decide) rfl (Nat.le_of_ble_eq_true rfl) ?_
  intro p e s m below meth c ls F hml hr hlk hnm hK hR hl
  have hx := F.1
  have hb := F.2.1
  replace hl : lv_has ls 1 [(0, .ref (adr (nk x 0)))] := hl
  refine lv_aload_n hx hb dX2_dropRow_0 rfl (lv_at hl 0 rfl) ?_
  refine lv_iconst (v := (-1)) hx hb dX2_dropRow_1 (by decide) ?_
  refine kp_9 F hK hR (w := nI 0) (by omega) (by decide) fl_X2_30 dX2_dropRow_2 (fun H locs hR => ?_)
  exact gr_v F hr hlk hK hR dX2_dropRow_5 (rfl)
set_option maxHeartbeats 4000000 in
set_option maxRecDepth 100000 in
/-- Kind.hasItem(i) -/
theorem c_X2_hasItem (l : Launch) (G : gw_G) (A : Nat → Prop) (adr : Nat → Nat) (n : Nat) (S Y : Nat → Nat → Int32) (L : Int64) (x : Nat) (x0 : Int32) (hxn : x < n) : gm l yX2_hasItem cX2_hasItem 2 (some .boolean) (rmL 0) 0 0 A [.ref (adr (nk x 0)), .int x0] (gW G A adr (ccel G adr n S Y L)) (gW G A adr (ccel G adr n S Y L)) (some (.int (sp_hasI S x x0))) := by
  refine gm_of (own := RX2) (by decide) rfl (Nat.le_of_ble_eq_true rfl) ?_
  intro p e s m below meth c ls F hml hr hlk hnm hK hR hl
  have hx := F.1
  have hb := F.2.1
  replace hl : lv_has ls 2 [(0, .ref (adr (nk x 0))), (1, .int x0)] := hl
  refine lv_iload_n hx hb dX2_hasItem_0 rfl (lv_at hl 1 rfl) ?_
  refine lv_if_lt (tgt := 16) hx hb dX2_hasItem_1 (by decide) (fun c_1 => ?_) (fun c_1 => ?_)
  · have n_1 := Int32.not_le.mpr c_1
    refine lv_iconst (v := nI 0) hx hb dX2_hasItem_16 (by decide) ?_
    exact gr_z F hr hlk hK hR dX2_hasItem_17 (by decide) (by unfold sp_hasI; repeat (first | rw [if_pos c_1] | rw [if_neg c_1] | rw [if_neg (not_not_intro c_1)] | rw [if_pos n_1] | rw [if_neg n_1] | rw [if_neg (not_not_intro n_1)])) (rfl)
  · have n_1 := Int32.not_lt.mp c_1
    refine lv_iload_n hx hb dX2_hasItem_4 rfl (lv_at hl 1 rfl) ?_
    refine lv_aload_n hx hb dX2_hasItem_5 rfl (lv_at hl 0 rfl) ?_
    refine kg_9 F hK hR (by omega) fl_X2_30 dX2_hasItem_6 ?_
    refine lv_icmp_ge (tgt := 16) hx hb dX2_hasItem_9 (by decide) (fun c_9 => ?_) (fun c_9 => ?_)
    · have n_9 := Int32.not_lt.mpr c_9
      refine lv_iconst (v := nI 0) hx hb dX2_hasItem_16 (by decide) ?_
      exact gr_z F hr hlk hK hR dX2_hasItem_17 (by decide) (by unfold sp_hasI; repeat (first | rw [if_pos c_1] | rw [if_neg c_1] | rw [if_neg (not_not_intro c_1)] | rw [if_pos n_1] | rw [if_neg n_1] | rw [if_neg (not_not_intro n_1)] | rw [if_pos c_9] | rw [if_neg c_9] | rw [if_neg (not_not_intro c_9)] | rw [if_pos n_9] | rw [if_neg n_9] | rw [if_neg (not_not_intro n_9)])) (rfl)
    · have n_9 := Int32.not_le.mp c_9
      refine lv_iconst (v := nI 1) hx hb dX2_hasItem_12 (by decide) ?_
      refine lv_goto (tgt := 17) hx hb dX2_hasItem_13 (by decide) ?_
      exact gr_z F hr hlk hK hR dX2_hasItem_17 (by decide) (by unfold sp_hasI; repeat (first | rw [if_pos c_1] | rw [if_neg c_1] | rw [if_neg (not_not_intro c_1)] | rw [if_pos n_1] | rw [if_neg n_1] | rw [if_neg (not_not_intro n_1)] | rw [if_pos c_9] | rw [if_neg c_9] | rw [if_neg (not_not_intro c_9)] | rw [if_pos n_9] | rw [if_neg n_9] | rw [if_neg (not_not_intro n_9)])) (rfl)
set_option maxHeartbeats 4000000 in
set_option maxRecDepth 100000 in
/-- Kind.reset() -/
theorem c_X2_reset (l : Launch) (G : gw_G) (A : Nat → Prop) (adr : Nat → Nat) (n : Nat) (S Y : Nat → Nat → Int32) (L : Int64) (x : Nat) (hxn : x < n) : gm l yX2_reset cX2_reset 2 none (rmL 2) 0 0 A [.ref (adr (nk x 0))] (gW G A adr (ccel G adr n S Y L)) (gW G A adr (ccel G adr n (sp_ag1 S x) Y L)) none := by
  refine gm_of (own := RX2) (by decide) rfl (Nat.le_of_ble_eq_true rfl) ?_
  intro p e s m below meth c ls F hml hr hlk hnm hK hR hl
  have hx := F.1
  have hb := F.2.1
  replace hl : lv_has ls 2 [(0, .ref (adr (nk x 0)))] := hl
  refine lv_aload_n hx hb dX2_reset_0 rfl (lv_at hl 0 rfl) ?_
  refine lv_iconst (v := nI 0) hx hb dX2_reset_1 (by decide) ?_
  refine kp_11 F hK hR (by omega) fl_X2_39 dX2_reset_2 (fun H locs hR => ?_)
  refine lv_aload_n hx hb dX2_reset_5 rfl (lv_at hl 0 rfl) ?_
  refine gcVv (As := []) F hK hR hml cv_X2_72 (o := nk x 0) (ccel_k (by omega) (by decide)) rfl rfl (c_X2_dropRow l G A adr n (m2 S 12 x (nI 0)) Y L x (by omega)) ⟨rfl, rfl⟩ ⟨Nat.le_of_ble_eq_true rfl, Nat.le_of_ble_eq_true rfl⟩ rfl rfl hl.1 (Nat.le_of_ble_eq_true rfl) dX2_reset_6 ⟨Nat.zero_le _, Nat.zero_le _⟩ (fun H locs hR => ?_)
  refine lv_iconst (v := nI 0) hx hb dX2_reset_9 (by decide) ?_
  refine lv_istore_n (lv' := [(1, .int (nI 0)), (0, .ref (adr (nk x 0)))]) hx hb dX2_reset_10 rfl hl (by decide) rfl (fun ls hl => ?_)
  refine lv_iload_n hx hb dX2_reset_11 rfl (lv_at hl 0 rfl) ?_
  refine lv_iconst (v := nI 4) hx hb dX2_reset_12 (by decide) ?_
  refine nv_icmp_ge (by omega) (by omega) hx hb dX2_reset_13 (tgt := 28) (by decide) (fun c_13 => absurd c_13 (by omega)) (fun c_13 => ?_)
  refine lv_aload_n hx hb dX2_reset_16 rfl (lv_at hl 1 rfl) ?_
  refine lv_iload_n hx hb dX2_reset_17 rfl (lv_at hl 0 rfl) ?_
  refine lv_iconst (v := nI 0) hx hb dX2_reset_18 (by decide) ?_
  refine gcVv (As := [.int (nI 0), .int (nI 0)]) F hK hR hml cv_X2_75 (o := nk x 0) (ccel_k (by omega) (by decide)) rfl rfl (c_X2_change l G A adr n (m2 (m2 S 12 x (nI 0)) 8 x (nI 0)) Y L x 0 (nI 0) (by omega) (by omega)) ⟨rfl, rfl⟩ ⟨Nat.le_of_ble_eq_true rfl, Nat.le_of_ble_eq_true rfl⟩ rfl rfl hl.1 (Nat.le_of_ble_eq_true rfl) dX2_reset_19 ⟨Nat.zero_le _, Nat.zero_le _⟩ (fun H locs hR => ?_)
  refine lv_iinc (v := nI 1) (lv' := [(1, .int (nI 1)), (0, .ref (adr (nk x 0)))]) hx hb dX2_reset_22 hl (k := 0) rfl (nI_add _ _) (by decide) rfl (fun ls hl => ?_)
  refine lv_goto (tgt := 11) hx hb dX2_reset_25 (by decide) ?_
  refine lv_iload_n hx hb dX2_reset_11 rfl (lv_at hl 0 rfl) ?_
  refine lv_iconst (v := nI 4) hx hb dX2_reset_12 (by decide) ?_
  refine nv_icmp_ge (by omega) (by omega) hx hb dX2_reset_13 (tgt := 28) (by decide) (fun c_13 => absurd c_13 (by omega)) (fun c_13 => ?_)
  refine lv_aload_n hx hb dX2_reset_16 rfl (lv_at hl 1 rfl) ?_
  refine lv_iload_n hx hb dX2_reset_17 rfl (lv_at hl 0 rfl) ?_
  refine lv_iconst (v := nI 0) hx hb dX2_reset_18 (by decide) ?_
  refine gcVv (As := [.int (nI 1), .int (nI 0)]) F hK hR hml cv_X2_75 (o := nk x 0) (ccel_k (by omega) (by decide)) rfl rfl (c_X2_change l G A adr n (sp_set (m2 (m2 S 12 x (nI 0)) 8 x (nI 0)) x 0 (nI 0)) Y L x 1 (nI 0) (by omega) (by omega)) ⟨rfl, rfl⟩ ⟨Nat.le_of_ble_eq_true rfl, Nat.le_of_ble_eq_true rfl⟩ rfl rfl hl.1 (Nat.le_of_ble_eq_true rfl) dX2_reset_19 ⟨Nat.zero_le _, Nat.zero_le _⟩ (fun H locs hR => ?_)
  refine lv_iinc (v := nI 2) (lv' := [(1, .int (nI 2)), (0, .ref (adr (nk x 0)))]) hx hb dX2_reset_22 hl (k := 0) rfl (nI_add _ _) (by decide) rfl (fun ls hl => ?_)
  refine lv_goto (tgt := 11) hx hb dX2_reset_25 (by decide) ?_
  refine lv_iload_n hx hb dX2_reset_11 rfl (lv_at hl 0 rfl) ?_
  refine lv_iconst (v := nI 4) hx hb dX2_reset_12 (by decide) ?_
  refine nv_icmp_ge (by omega) (by omega) hx hb dX2_reset_13 (tgt := 28) (by decide) (fun c_13 => absurd c_13 (by omega)) (fun c_13 => ?_)
  refine lv_aload_n hx hb dX2_reset_16 rfl (lv_at hl 1 rfl) ?_
  refine lv_iload_n hx hb dX2_reset_17 rfl (lv_at hl 0 rfl) ?_
  refine lv_iconst (v := nI 0) hx hb dX2_reset_18 (by decide) ?_
  refine gcVv (As := [.int (nI 2), .int (nI 0)]) F hK hR hml cv_X2_75 (o := nk x 0) (ccel_k (by omega) (by decide)) rfl rfl (c_X2_change l G A adr n (sp_set (sp_set (m2 (m2 S 12 x (nI 0)) 8 x (nI 0)) x 0 (nI 0)) x 1 (nI 0)) Y L x 2 (nI 0) (by omega) (by omega)) ⟨rfl, rfl⟩ ⟨Nat.le_of_ble_eq_true rfl, Nat.le_of_ble_eq_true rfl⟩ rfl rfl hl.1 (Nat.le_of_ble_eq_true rfl) dX2_reset_19 ⟨Nat.zero_le _, Nat.zero_le _⟩ (fun H locs hR => ?_)
  refine lv_iinc (v := nI 3) (lv' := [(1, .int (nI 3)), (0, .ref (adr (nk x 0)))]) hx hb dX2_reset_22 hl (k := 0) rfl (nI_add _ _) (by decide) rfl (fun ls hl => ?_)
  refine lv_goto (tgt := 11) hx hb dX2_reset_25 (by decide) ?_
  refine lv_iload_n hx hb dX2_reset_11 rfl (lv_at hl 0 rfl) ?_
  refine lv_iconst (v := nI 4) hx hb dX2_reset_12 (by decide) ?_
  refine nv_icmp_ge (by omega) (by omega) hx hb dX2_reset_13 (tgt := 28) (by decide) (fun c_13 => absurd c_13 (by omega)) (fun c_13 => ?_)
  refine lv_aload_n hx hb dX2_reset_16 rfl (lv_at hl 1 rfl) ?_
  refine lv_iload_n hx hb dX2_reset_17 rfl (lv_at hl 0 rfl) ?_
  refine lv_iconst (v := nI 0) hx hb dX2_reset_18 (by decide) ?_
  refine gcVv (As := [.int (nI 3), .int (nI 0)]) F hK hR hml cv_X2_75 (o := nk x 0) (ccel_k (by omega) (by decide)) rfl rfl (c_X2_change l G A adr n (sp_set (sp_set (sp_set (m2 (m2 S 12 x (nI 0)) 8 x (nI 0)) x 0 (nI 0)) x 1 (nI 0)) x 2 (nI 0)) Y L x 3 (nI 0) (by omega) (by omega)) ⟨rfl, rfl⟩ ⟨Nat.le_of_ble_eq_true rfl, Nat.le_of_ble_eq_true rfl⟩ rfl rfl hl.1 (Nat.le_of_ble_eq_true rfl) dX2_reset_19 ⟨Nat.zero_le _, Nat.zero_le _⟩ (fun H locs hR => ?_)
  refine lv_iinc (v := nI 4) (lv' := [(1, .int (nI 4)), (0, .ref (adr (nk x 0)))]) hx hb dX2_reset_22 hl (k := 0) rfl (nI_add _ _) (by decide) rfl (fun ls hl => ?_)
  refine lv_goto (tgt := 11) hx hb dX2_reset_25 (by decide) ?_
  refine lv_iload_n hx hb dX2_reset_11 rfl (lv_at hl 0 rfl) ?_
  refine lv_iconst (v := nI 4) hx hb dX2_reset_12 (by decide) ?_
  refine nv_icmp_ge (by omega) (by omega) hx hb dX2_reset_13 (tgt := 28) (by decide) (fun c_13 => ?_) (fun c_13 => absurd c_13 (by omega))
  exact gr_v F hr hlk hK hR dX2_reset_28 (rfl)
theorem row_min {v : Int32} (h0 : ¬ v < 0) : (if nI 20 < v then nI 20 else v) = nI (sp_rowN v) := by
  by_cases h : nI 20 < v
  · rw [if_pos h, rowN_f h]
  · rw [if_neg h]; exact (rowN_t h0 h).1
theorem row_max {k : Nat} (h : k ≤ 20) : (if nI 0 < nI k then nI k else nI 0) = nI k := by
  by_cases h0 : nI 0 < nI k
  · rw [if_pos h0]
  · rw [if_neg h0]
    have := (not_congr (nI_ltI (by decide) (by omega))).mp h0
    rw [show k = 0 by omega]
theorem row_put (k : Nat) : nI k = nI (k + 1) - nI 1 := by rw [pk_sub (by omega)]; rfl
set_option maxHeartbeats 4000000 in
set_option maxRecDepth 100000 in
/-- Kind.makeRow(wanted) -/
theorem c_X2_makeRow (l : Launch) (G : gw_G) (A : Nat → Prop) (adr : Nat → Nat) (n : Nat) (S Y : Nat → Nat → Int32) (L : Int64) (x : Nat) (v : Int32) (hxn : x < n) (h0 : ¬ v < 0) : gm l yX2_makeRow cX2_makeRow 3 none (rmL 1) 0 0 A [.ref (adr (nk x 0)), .int v] (gW G A adr (ccel G adr n S Y L)) (gW G A adr (ccel G adr n (sp_rowS S x v) Y L)) none := by
  refine gm_of (own := RX2) (by decide) rfl (Nat.le_of_ble_eq_true rfl) ?_
  intro p e s m below meth c ls F hml hr hlk hnm hK hR hl
  have hx := F.1
  have hb := F.2.1
  replace hl : lv_has ls 3 [(0, .ref (adr (nk x 0))), (1, .int v)] := hl
  obtain ⟨r, hr2⟩ : ∃ r, r = sp_rowN v := ⟨_, rfl⟩
  have hr20 : r ≤ 20 := by rw [hr2]; exact rowN_le h0
  refine lv_aload_n hx hb dX2_makeRow_0 rfl (lv_at hl 0 rfl) ?_
  refine lv_iconst (v := nI 0) hx hb dX2_makeRow_1 (by decide) ?_
  refine lv_iload_n hx hb dX2_makeRow_2 rfl (lv_at hl 1 rfl) ?_
  refine lv_bipush (v := nI 20) hx hb dX2_makeRow_3 (by decide) ?_
  refine va_mmin hx hb (hml.trans hl.1.symm) F.2.2.1 (F.2.2.2 _ ml_X2_63) (F.2.2.2 _ st_Lib_Math_min_name) (F.2.2.2 _ in_Math) (F.2.2.2 _ co_Lib_Math_min_name) (Nat.le_of_ble_eq_true rfl) (Nat.le_of_ble_eq_true rfl) (Nat.zero_le _) (Nat.zero_le _) dX2_makeRow_5 ?_
  refine lv_eq ((row_min h0).trans (congrArg nI hr2.symm)) ?_
  refine va_mmax hx hb (hml.trans hl.1.symm) F.2.2.1 (F.2.2.2 _ ml_X2_69) (F.2.2.2 _ st_Lib_Math_max_name) (F.2.2.2 _ in_Math) (F.2.2.2 _ co_Lib_Math_max_name) (Nat.le_of_ble_eq_true rfl) (Nat.le_of_ble_eq_true rfl) (Nat.zero_le _) (Nat.zero_le _) dX2_makeRow_8 ?_
  refine lv_eq (row_max hr20) ?_
  refine kp_9 F hK hR (w := nI (r + 1)) (by omega) (row_put _) fl_X2_30 dX2_makeRow_11 (fun H locs hR => ?_)
  refine lv_iconst (v := nI 0) hx hb dX2_makeRow_14 (by decide) ?_
  refine lv_istore_n (lv' := [(2, .int (nI 0)), (0, .ref (adr (nk x 0))), (1, .int v)]) hx hb dX2_makeRow_15 rfl hl (by decide) rfl (fun ls hl => ?_)
  refine lp_gen hR (fun H locs hR => ?_)
  obtain ⟨k, hk⟩ : ∃ k : Nat, k = 0 := ⟨_, rfl⟩
  replace hl : lv_has ls 3 [(2, .int (nI k)), (0, .ref (adr (nk x 0))), (1, .int v)] := by rw [hk]; exact lv_sub hl [0, 1, 2] rfl
  have hle : k ≤ r := by omega
  replace hR : cB G A adr n (sp_zero (m2 S 8 x (nI (r + 1))) x k) Y L s.heap H locs := by rw [hk]; exact hR
  clear hk
  generalize hd : r - k = d
  induction d generalizing k ls H locs with
  | zero =>
    have ek := sub0 hd hle
    refine lv_iload_n hx hb dX2_makeRow_16 rfl (lv_at hl 0 rfl) ?_
    refine lv_aload_n hx hb dX2_makeRow_17 rfl (lv_at hl 1 rfl) ?_
    refine kg_9 F hK hR (by omega) fl_X2_30 dX2_makeRow_18 ?_
    refine lv_eq (congrArg (fun z : Int32 => z - nI 1) ((congrFun (sp_zero_ne (by decide)) _).trans m2_at)) ?_
    refine lv_eq (row_put r).symm ?_
    refine nv_icmp_ge (by omega) (by omega) hx hb dX2_makeRow_21 (tgt := 37) (by decide) (fun c_21 => ?_) (fun c_21 => absurd c_21 (by omega))
    exact gr_v F hr hlk hK hR dX2_makeRow_37 (by rw [sp_rowS, if_neg h0, ← hr2, ek])
  | succ d ih =>
    refine lv_iload_n hx hb dX2_makeRow_16 rfl (lv_at hl 0 rfl) ?_
    refine lv_aload_n hx hb dX2_makeRow_17 rfl (lv_at hl 1 rfl) ?_
    refine kg_9 F hK hR (by omega) fl_X2_30 dX2_makeRow_18 ?_
    refine lv_eq (congrArg (fun z : Int32 => z - nI 1) ((congrFun (sp_zero_ne (by decide)) _).trans m2_at)) ?_
    refine lv_eq (row_put r).symm ?_
    refine nv_icmp_ge (by omega) (by omega) hx hb dX2_makeRow_21 (tgt := 37) (by decide) (fun c_21 => absurd c_21 (by omega)) (fun c_21 => ?_)
    refine lv_aload_n hx hb dX2_makeRow_24 rfl (lv_at hl 1 rfl) ?_
    refine kg_8 F hK hR (by omega) fl_X2_27 dX2_makeRow_25 ?_
    refine lv_iload_n hx hb dX2_makeRow_28 rfl (lv_at hl 0 rfl) ?_
    refine lv_iconst (v := nI 0) hx hb dX2_makeRow_29 (by decide) ?_
    refine rw_st F hK hR (by omega) (by omega) dX2_makeRow_30 (fun H locs hR => ?_)
    refine lv_iinc (v := nI (k + 1)) (lv' := [(2, .int (nI (k + 1))), (0, .ref (adr (nk x 0))), (1, .int v)]) hx hb dX2_makeRow_31 hl (k := 0) rfl (nI_add _ _) (by decide) rfl (fun ls hl => ?_)
    refine lv_goto (tgt := 16) hx hb dX2_makeRow_34 (by decide) ?_
    exact ih _ _ _ _ (lv_sub hl [0, 1, 2] rfl) (by omega) hR (by omega)
set_option maxHeartbeats 4000000 in
set_option maxRecDepth 100000 in
/-- Journal.clear() -/
theorem c_X1_clear (l : Launch) (G : gw_G) (A : Nat → Prop) (adr : Nat → Nat) (n : Nat) (S Y : Nat → Nat → Int32) (L : Int64)   : gm l yX1_clear cX1_clear 1 none (rmL 0) 0 0 A [.ref (adr 3)] (gW G A adr (ccel G adr n S Y L)) (gW G A adr (ccel G adr n (rf_runS S) (m2 (m2 Y 0 0 (-1)) 1 0 (-1)) L)) none := by
  refine gm_of (own := RX1) (by decide) rfl (Nat.le_of_ble_eq_true rfl) ?_
  intro p e s m below meth c ls F hml hr hlk hnm hK hR hl
  have hx := F.1
  have hb := F.2.1
  replace hl : lv_has ls 1 [(0, .ref (adr 3))] := hl
  refine lv_aload_n hx hb dX1_clear_0 rfl (lv_at hl 0 rfl) ?_
  refine lv_iconst (v := nI 0) hx hb dX1_clear_1 (by decide) ?_
  refine jp_2 F hK hR fl_X1_18 dX1_clear_2 (fun H locs hR => ?_)
  refine lv_aload_n hx hb dX1_clear_5 rfl (lv_at hl 0 rfl) ?_
  refine lv_iconst (v := nI 0) hx hb dX1_clear_6 (by decide) ?_
  refine jp_3 F hK hR fl_X1_22 dX1_clear_7 (fun H locs hR => ?_)
  refine lv_aload_n hx hb dX1_clear_10 rfl (lv_at hl 0 rfl) ?_
  refine lv_iconst (v := nI 0) hx hb dX1_clear_11 (by decide) ?_
  refine jp_4 F hK hR fl_X1_25 dX1_clear_12 (fun H locs hR => ?_)
  refine lv_aload_n hx hb dX1_clear_15 rfl (lv_at hl 0 rfl) ?_
  refine lv_iconst (v := nI 0) hx hb dX1_clear_16 (by decide) ?_
  refine jp_5 F hK hR fl_X1_28 dX1_clear_17 (fun H locs hR => ?_)
  refine lv_aload_n hx hb dX1_clear_20 rfl (lv_at hl 0 rfl) ?_
  refine lv_iconst (v := (-1)) hx hb dX1_clear_21 (by decide) ?_
  refine jp_6 F hK hR fl_X1_31 dX1_clear_22 (fun H locs hR => ?_)
  refine lv_aload_n hx hb dX1_clear_25 rfl (lv_at hl 0 rfl) ?_
  refine lv_iconst (v := (-1)) hx hb dX1_clear_26 (by decide) ?_
  refine jp_7 F hK hR fl_X1_34 dX1_clear_27 (fun H locs hR => ?_)
  exact gr_v F hr hlk hK hR dX1_clear_30 (rfl)
set_option maxHeartbeats 4000000 in
set_option maxRecDepth 100000 in
/-- Journal.note(sort, value) -/
theorem c_X1_note (l : Launch) (G : gw_G) (A : Nat → Prop) (adr : Nat → Nat) (n : Nat) (S Y : Nat → Nat → Int32) (L : Int64) (ev : Nat) (so v : Int32) (hev : S 13 0 = nI ev) (he : ev ≤ 60) : gm l yX1_note cX1_note 3 none (rmL 0) 0 0 A [.ref (adr 3), .int so, .int v] (gW G A adr (ccel G adr n S Y L)) (gW G A adr (ccel G adr n (sp_tell S ev so v) Y L)) none := by
  refine gm_of (own := RX1) (by decide) rfl (Nat.le_of_ble_eq_true rfl) ?_
  intro p e s m below meth c ls F hml hr hlk hnm hK hR hl
  have hx := F.1
  have hb := F.2.1
  replace hl : lv_has ls 3 [(0, .ref (adr 3)), (1, .int so), (2, .int v)] := hl
  refine lv_aload_n hx hb dX1_note_0 rfl (lv_at hl 0 rfl) ?_
  refine jg_2 F hK hR fl_X1_18 dX1_note_1 ?_
  refine lv_eq (hev) ?_
  refine lv_bipush (v := nI 60) hx hb dX1_note_4 (by decide) ?_
  refine nv_icmp_ge (by omega) (by omega) hx hb dX1_note_6 (tgt := 39) (by decide) (fun c_6 => ?_) (fun c_6 => ?_)
  · have n_6 : ¬ (ev < 60) := by omega
    exact gr_v F hr hlk hK hR dX1_note_39 (by unfold sp_tell; repeat (first | rw [if_pos c_6] | rw [if_neg c_6] | rw [if_neg (not_not_intro c_6)] | rw [if_pos n_6] | rw [if_neg n_6] | rw [if_neg (not_not_intro n_6)]))
  · have n_6 : ¬ (60 ≤ ev) := by omega
    refine lv_aload_n hx hb dX1_note_9 rfl (lv_at hl 0 rfl) ?_
    refine jg_0 F hK hR fl_X1_11 dX1_note_10 ?_
    refine lv_aload_n hx hb dX1_note_13 rfl (lv_at hl 0 rfl) ?_
    refine jg_2 F hK hR fl_X1_18 dX1_note_14 ?_
    refine lv_eq (hev) ?_
    refine lv_iload_n hx hb dX1_note_17 rfl (lv_at hl 1 rfl) ?_
    refine so_st F hK hR (by omega) dX1_note_18 (fun H locs hR => ?_)
    refine lv_aload_n hx hb dX1_note_19 rfl (lv_at hl 0 rfl) ?_
    refine jg_1 F hK hR fl_X1_15 dX1_note_20 ?_
    refine lv_aload_n hx hb dX1_note_23 rfl (lv_at hl 0 rfl) ?_
    refine jg_2 F hK hR fl_X1_18 dX1_note_24 ?_
    refine lv_eq ((m2_nk (by decide)).trans (hev)) ?_
    refine lv_iload_n hx hb dX1_note_27 rfl (lv_at hl 2 rfl) ?_
    refine va_st F hK hR (by omega) dX1_note_28 (fun H locs hR => ?_)
    refine lv_aload_n hx hb dX1_note_29 rfl (lv_at hl 0 rfl) ?_
    refine lv_dup hx hb dX1_note_30 rfl ?_
    refine jg_2 F hK hR fl_X1_18 dX1_note_31 ?_
    refine lv_eq (((m2_nk (by decide)).trans (m2_nk (by decide))).trans (hev)) ?_
    refine lv_iconst (v := nI 1) hx hb dX1_note_34 (by decide) ?_
    refine nv_iadd hx hb dX1_note_35 ?_
    refine jp_2 F hK hR fl_X1_18 dX1_note_36 (fun H locs hR => ?_)
    exact gr_v F hr hlk hK hR dX1_note_39 (by unfold sp_tell; repeat (first | rw [if_pos c_6] | rw [if_neg c_6] | rw [if_neg (not_not_intro c_6)] | rw [if_pos n_6] | rw [if_neg n_6] | rw [if_neg (not_not_intro n_6)]))
