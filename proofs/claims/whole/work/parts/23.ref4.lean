/-! THE REFERENCE, 4: what an act does -/
def sp_doS (S : Nat → Nat → Int32) (ev x so : Nat) (ra rb rc : Int32) : Nat → Nat → Int32 := match so with
  | 0 => sp_set S x ra.toNatClampNeg rb
  | 1 => sp_addS S x ra.toNatClampNeg rb.toNatClampNeg rc.toNatClampNeg
  | 2 => sp_putS S x ra.toNatClampNeg rb.toNatClampNeg rc.toNatClampNeg
  | 3 => sp_divS S x ra.toNatClampNeg rb.toNatClampNeg rc.toNatClampNeg
  | 4 => sp_rowS S x (sp_get S x ra.toNatClampNeg)
  | 5 => sp_inS S x ra.toNatClampNeg rb.toNatClampNeg
  | 6 => sp_outS S x ra.toNatClampNeg rb.toNatClampNeg
  | 8 => S
  | 9 => sp_ar S ra
  | 10 => sp_tell S ev (nI 3) ra
  | _ => m2 S 8 x (nI 0)
def sp_doR (S : Nat → Nat → Int32) (x so : Nat) (ra rb rc : Int32) : Int32 := match so with
  | 3 => sp_divR S x rb.toNatClampNeg rc.toNatClampNeg
  | 4 => sp_rowR (sp_get S x ra.toNatClampNeg)
  | 5 => sp_inR S x ra.toNatClampNeg
  | 6 => sp_inR S x rb.toNatClampNeg
  | 9 => ra
  | _ => -1
theorem so_do {so : Nat} (hso : so ≤ 12) (h7 : so ≠ 7) (h11 : so ≠ 11) : so = 0 ∨ so = 1 ∨ so = 2 ∨ so = 3 ∨ so = 4 ∨ so = 5 ∨ so = 6 ∨ so = 8 ∨ so = 9 ∨ so = 10 ∨ so = 12 := by omega
theorem sp_zero_ne {S : Nat → Nat → Int32} {x k a : Nat} (h : a ≠ 9) : sp_zero S x k a = S a := by
  induction k with
  | zero => rfl
  | succ k ih => rw [sp_zero, m2_ne h, ih]
theorem sp_set_ne {S : Nat → Nat → Int32} {x f a : Nat} {v : Int32} (h : a ≠ 6) : sp_set S x f v a = S a := by
  unfold sp_set
  split
  · rw [m2_ne h]
  · rfl
/-- one of them as at first: state, row, fields -/
def sp_ag1 (S : Nat → Nat → Int32) (x : Nat) : Nat → Nat → Int32 := sp_set (sp_set (sp_set (sp_set (m2 (m2 S 12 x (nI 0)) 8 x (nI 0)) x 0 (nI 0)) x 1 (nI 0)) x 2 (nI 0)) x 3 (nI 0)
def sp_agS (S : Nat → Nat → Int32) : Nat → Nat → Nat → Int32
  | 0 => S
  | k + 1 => sp_ag1 (sp_agS S k) k
def sp_agN (S : Nat → Nat → Int32) : Nat → Int32
  | 0 => nI 0
  | k + 1 => sp_agN S k + (if sp_agS S k 12 k = 0 then nI 0 else nI 1)
theorem sp_agS_ne {S : Nat → Nat → Int32} {k a : Nat} (h6 : a ≠ 6) (h8 : a ≠ 8) (h12 : a ≠ 12) : sp_agS S k a = S a := by
  induction k with
  | zero => rfl
  | succ k ih => rw [sp_agS, sp_ag1, sp_set_ne h6, sp_set_ne h6, sp_set_ne h6, sp_set_ne h6, m2_ne h8, m2_ne h12, ih]
set_option maxHeartbeats 4000000 in
set_option maxRecDepth 100000 in
/-- newRow(x, n) -/
theorem c_X7_newRow (l : Launch) (G : gw_G) (A : Nat → Prop) (adr : Nat → Nat) (S X : Nat → Nat → Int32) (x : Nat) (v : Int32) (hxx : x < 12) : gm l yX7_newRow cX7_newRow 5 (some .int) (rmL 1) 0 0 A [.ref (adr 0), .int (nI x), .int v] (gW G A adr (rcel G adr S X)) (gW G A adr (rcel G adr (sp_rowS S x v) X)) (some (.int (sp_rowR v))) := by
  refine gm_of (own := RX7) (by decide) rfl (Nat.le_of_ble_eq_true rfl) ?_
  intro p e s m below meth c ls F hml hr hlk hnm hK hR hl
  have hx := F.1
  have hb := F.2.1
  have hl : lv_has ls 5 [(0, .ref (adr 0)), (1, .int (nI x)), (2, .int v)] := hl
  refine lv_iload_n hx hb dX7_newRow_0 rfl (lv_at hl 2 rfl) ?_
  refine lv_if_ge (tgt := 11) hx hb dX7_newRow_1 (by decide) (fun c_1 => ?_) (fun c_1 => ?_)
  · have n_1 := Int32.not_lt.mpr c_1
    refine lp_cut (pc2 := 24) (st2 := []) (fun H locs ls => rB G A adr S X s.heap H locs ∧ lv_has ls 5 [(3, .int (nI (sp_rowN v))), (0, .ref (adr 0)), (1, .int (nI x)), (2, .int v)]) (fun H locs ls hRl => ?_) (fun K => ?_)
    · obtain ⟨hR, hl⟩ := hRl
      refine lv_aload_n hx hb dX7_newRow_24 rfl (lv_at hl 1 rfl) ?_
      refine rg_8 F hK hR dX7_newRow_25 ?_
      refine lv_iload_n hx hb dX7_newRow_28 rfl (lv_at hl 2 rfl) ?_
      refine lv_iload_n hx hb dX7_newRow_29 rfl (lv_at hl 0 rfl) ?_
      refine lv_iconst (v := nI 1) hx hb dX7_newRow_30 (by decide) ?_
      refine nv_iadd hx hb dX7_newRow_31 ?_
      refine rs_8 F hK hR (by omega) dX7_newRow_32 (fun H locs hR => ?_)
      refine lv_iconst (v := nI 0) hx hb dX7_newRow_33 (by decide) ?_
      refine lv_istore (lv' := [(4, .int (nI 0)), (3, .int (nI (sp_rowN v))), (0, .ref (adr 0)), (1, .int (nI x)), (2, .int v)]) hx hb dX7_newRow_34 hl (by decide) rfl (fun ls hl => ?_)
      obtain ⟨k, hk⟩ : ∃ k, k = 0 := ⟨_, rfl⟩
      generalize hrr : sp_rowN v = r at hR hl ⊢
      have hr20 : r ≤ 20 := by rw [← hrr]; exact rowN_le n_1
      replace hl : lv_has ls 5 [(4, .int (nI k)), (3, .int (nI r)), (0, .ref (adr 0)), (1, .int (nI x)), (2, .int v)] := by rw [hk]; exact lv_sub hl [0, 1, 2, 3, 4] rfl
      replace hR : rB G A adr (sp_zero (m2 S 8 x (nI (r + 1))) x k) X s.heap H locs := by rw [hk]; exact hR
      have hkf : k ≤ r := by omega
      clear hk
      generalize hd : r - k = d
      induction d generalizing k ls H locs with
      | zero =>
        refine lv_iload hx hb dX7_newRow_36 (lv_at hl 0 rfl) ?_
        refine lv_iload_n hx hb dX7_newRow_38 rfl (lv_at hl 1 rfl) ?_
        refine nv_icmp_ge (by omega) (by omega) hx hb dX7_newRow_39 (tgt := 61) (by decide) (fun c_39 => ?_) (fun c_39 => absurd c_39 (by omega))
        have hkk : k = r := by omega
        refine lv_iconst (v := (-1)) hx hb dX7_newRow_61 (by decide) ?_
        exact gr_i F hr hlk hK hR dX7_newRow_62 (by rw [sp_rowR, if_neg n_1]) (by rw [sp_rowS, if_neg n_1, hrr, hkk])
      | succ d ih =>
        refine lv_iload hx hb dX7_newRow_36 (lv_at hl 0 rfl) ?_
        refine lv_iload_n hx hb dX7_newRow_38 rfl (lv_at hl 1 rfl) ?_
        refine nv_icmp_ge (by omega) (by omega) hx hb dX7_newRow_39 (tgt := 61) (by decide) (fun c_39 => absurd c_39 (by omega)) (fun c_39 => ?_)
        refine lv_aload_n hx hb dX7_newRow_42 rfl (lv_at hl 2 rfl) ?_
        refine rg_9 F hK hR dX7_newRow_43 ?_
        refine lv_bipush (v := nI 20) hx hb dX7_newRow_46 (by decide) ?_
        refine lv_iload_n hx hb dX7_newRow_48 rfl (lv_at hl 3 rfl) ?_
        refine nv_imul hx hb dX7_newRow_49 ?_
        refine lv_iload hx hb dX7_newRow_50 (lv_at hl 0 rfl) ?_
        refine nv_iadd hx hb dX7_newRow_52 ?_
        refine lv_iconst (v := nI 0) hx hb dX7_newRow_53 (by decide) ?_
        refine rs_9 F hK hR (by omega) dX7_newRow_54 (fun H locs hR => ?_)
        refine lv_iinc (v := nI (k + 1)) (lv' := [(4, .int (nI (k + 1))), (3, .int (nI r)), (0, .ref (adr 0)), (1, .int (nI x)), (2, .int v)]) hx hb dX7_newRow_55 hl (k := 0) rfl (nI_add _ _) (by decide) rfl (fun ls hl => ?_)
        refine lv_goto (tgt := 36) hx hb dX7_newRow_58 (by decide) ?_
        exact ih _ _ _ _ (lv_sub hl [0, 1, 2, 3, 4] rfl) hR (by omega) (by omega)
    · skip
      refine lv_iload_n hx hb dX7_newRow_11 rfl (lv_at hl 2 rfl) ?_
      refine lv_bipush (v := nI 20) hx hb dX7_newRow_12 (by decide) ?_
      refine lv_icmp_le (tgt := 22) hx hb dX7_newRow_14 (by decide) (fun c_14 => ?_) (fun c_14 => ?_)
      · have n_14 := Int32.not_lt.mpr c_14
        refine lv_iload_n hx hb dX7_newRow_22 rfl (lv_at hl 2 rfl) ?_
        refine lv_istore_n (lv' := [(3, .int v), (0, .ref (adr 0)), (1, .int (nI x)), (2, .int v)]) hx hb dX7_newRow_23 rfl hl (by decide) rfl (fun ls hl => ?_)
        have q := (rowN_t n_1 n_14).1
        exact K _ _ _ ⟨hR, by rw [← q]; exact lv_sub hl [0, 1, 2, 3] rfl⟩
      · have n_14 := Int32.not_le.mp c_14
        refine lv_bipush (v := nI 20) hx hb dX7_newRow_17 (by decide) ?_
        refine lv_goto (tgt := 23) hx hb dX7_newRow_19 (by decide) ?_
        refine lv_istore_n (lv' := [(3, .int (nI 20)), (0, .ref (adr 0)), (1, .int (nI x)), (2, .int v)]) hx hb dX7_newRow_23 rfl hl (by decide) rfl (fun ls hl => ?_)
        have q := rowN_f n_14
        exact K _ _ _ ⟨hR, by rw [q]; exact lv_sub hl [0, 1, 2, 3] rfl⟩
  · have n_1 := Int32.not_le.mp c_1
    refine lv_aload_n hx hb dX7_newRow_4 rfl (lv_at hl 0 rfl) ?_
    refine lv_bipush (v := nI 6) hx hb dX7_newRow_5 (by decide) ?_
    refine gcVi (As := [.int (nI 6)]) F hK hR hml cv_X7_111 (o := 0) rfl rfl rfl (c_X7_arise l G A adr S X (nI 6)) ⟨rfl, rfl⟩ ⟨Nat.le_of_ble_eq_true rfl, Nat.le_of_ble_eq_true rfl⟩ rfl rfl hl.1 (Nat.le_of_ble_eq_true rfl) dX7_newRow_7 ⟨Nat.zero_le _, Nat.zero_le _⟩ (fun H locs hR => ?_)
    exact gr_i F hr hlk hK hR dX7_newRow_10 (by unfold sp_rowR; repeat (first | rw [if_pos c_1] | rw [if_neg c_1] | rw [if_neg (not_not_intro c_1)] | rw [if_pos n_1] | rw [if_neg n_1] | rw [if_neg (not_not_intro n_1)])) (by rw [sp_rowS, if_pos (Int32.not_le.mp c_1)])
set_option maxHeartbeats 4000000 in
set_option maxRecDepth 100000 in
/-- inOut(x, True, a, b) -/
theorem c_X7_inOut1 (l : Launch) (G : gw_G) (A : Nat → Prop) (adr : Nat → Nat) (S X : Nat → Nat → Int32) (x fa fb : Nat) (hxx : x < 12) (hfa : fa < 4) (hfb : fb < 4) (hrow : ∀ x, x < 12 → ∃ r, r ≤ 21 ∧ S 8 x = nI r) : gm l yX7_inOut cX7_inOut 6 (some .int) (rmL 1) 0 0 A [.ref (adr 0), .int (nI x), .int (nI 1), .int (nI fa), .int (nI fb)] (gW G A adr (rcel G adr S X)) (gW G A adr (rcel G adr (sp_inS S x fa fb) X)) (some (.int (sp_inR S x fa))) := by
  refine gm_of (own := RX7) (by decide) rfl (Nat.le_of_ble_eq_true rfl) ?_
  intro p e s m below meth c ls F hml hr hlk hnm hK hR hl
  have hx := F.1
  have hb := F.2.1
  have hl : lv_has ls 6 [(0, .ref (adr 0)), (1, .int (nI x)), (2, .int (nI 1)), (3, .int (nI fa)), (4, .int (nI fb))] := hl
  refine lv_aload_n hx hb dX7_inOut_0 rfl (lv_at hl 0 rfl) ?_
  refine rg_8 F hK hR dX7_inOut_1 ?_
  refine lv_iload_n hx hb dX7_inOut_4 rfl (lv_at hl 1 rfl) ?_
  refine ri_8 F hK hR (by omega) dX7_inOut_5 ?_
  refine lv_if_ne (tgt := 15) hx hb dX7_inOut_6 (by decide) (fun c_6 => ?_) (fun c_6 => ?_)
  · refine lv_aload_n hx hb dX7_inOut_15 rfl (lv_at hl 0 rfl) ?_
    refine lv_iload_n hx hb dX7_inOut_16 rfl (lv_at hl 1 rfl) ?_
    refine lv_iload_n hx hb dX7_inOut_17 rfl (lv_at hl 2 rfl) ?_
    refine nv_if_eq (by omega) hx hb dX7_inOut_18 (tgt := 25) (by decide) (fun c_18 => absurd c_18 (by omega)) (fun c_18 => ?_)
    refine lv_iload_n hx hb dX7_inOut_21 rfl (lv_at hl 3 rfl) ?_
    refine lv_goto (tgt := 27) hx hb dX7_inOut_22 (by decide) ?_
    refine gcVi (As := [.int (nI x), .int (nI fa)]) F hK hR hml cv_X7_162 (o := 0) rfl rfl rfl (c_X7_get l G A adr S X x fa (by omega) (by omega)) ⟨rfl, rfl⟩ ⟨Nat.le_of_ble_eq_true rfl, Nat.le_of_ble_eq_true rfl⟩ rfl rfl hl.1 (Nat.le_of_ble_eq_true rfl) dX7_inOut_27 ⟨Nat.zero_le _, Nat.zero_le _⟩ (fun H locs hR => ?_)
    refine lv_istore (lv' := [(5, .int (sp_get S x fa)), (0, .ref (adr 0)), (1, .int (nI x)), (2, .int (nI 1)), (3, .int (nI fa)), (4, .int (nI fb))]) hx hb dX7_inOut_30 hl (by decide) rfl (fun ls hl => ?_)
    refine lv_iload hx hb dX7_inOut_32 (lv_at hl 0 rfl) ?_
    refine lv_if_lt (tgt := 50) hx hb dX7_inOut_34 (by decide) (fun c_34 => ?_) (fun c_34 => ?_)
    · have n_34 := Int32.not_le.mpr c_34
      refine lv_aload_n hx hb dX7_inOut_50 rfl (lv_at hl 1 rfl) ?_
      refine lv_iconst (v := nI 5) hx hb dX7_inOut_51 (by decide) ?_
      refine gcVi (As := [.int (nI 5)]) F hK hR hml cv_X7_111 (o := 0) rfl rfl rfl (c_X7_arise l G A adr S X (nI 5)) ⟨rfl, rfl⟩ ⟨Nat.le_of_ble_eq_true rfl, Nat.le_of_ble_eq_true rfl⟩ rfl rfl hl.1 (Nat.le_of_ble_eq_true rfl) dX7_inOut_52 ⟨Nat.zero_le _, Nat.zero_le _⟩ (fun H locs hR => ?_)
      exact gr_i F hr hlk hK hR dX7_inOut_55 (by unfold sp_inR; repeat (first | rw [if_pos c_6] | rw [if_neg c_6] | rw [if_neg (not_not_intro c_6)] | rw [if_pos c_18] | rw [if_neg c_18] | rw [if_neg (not_not_intro c_18)] | rw [if_pos c_34] | rw [if_neg c_34] | rw [if_neg (not_not_intro c_34)] | rw [if_pos n_34] | rw [if_neg n_34] | rw [if_neg (not_not_intro n_34)])) (by unfold sp_inS; repeat (first | rw [if_pos c_6] | rw [if_neg c_6] | rw [if_neg (not_not_intro c_6)] | rw [if_pos c_18] | rw [if_neg c_18] | rw [if_neg (not_not_intro c_18)] | rw [if_pos c_34] | rw [if_neg c_34] | rw [if_neg (not_not_intro c_34)] | rw [if_pos n_34] | rw [if_neg n_34] | rw [if_neg (not_not_intro n_34)]))
    · have n_34 := Int32.not_lt.mp c_34
      refine lv_iload hx hb dX7_inOut_37 (lv_at hl 0 rfl) ?_
      refine lv_aload_n hx hb dX7_inOut_39 rfl (lv_at hl 1 rfl) ?_
      refine rg_8 F hK hR dX7_inOut_40 ?_
      refine lv_iload_n hx hb dX7_inOut_43 rfl (lv_at hl 2 rfl) ?_
      refine ri_8 F hK hR (by omega) dX7_inOut_44 ?_
      refine lv_iconst (v := nI 1) hx hb dX7_inOut_45 (by decide) ?_
      refine lv_isub hx hb dX7_inOut_46 ?_
      refine lv_icmp_lt (tgt := 56) hx hb dX7_inOut_47 (by decide) (fun c_47 => ?_) (fun c_47 => ?_)
      · have n_47 := Int32.not_le.mpr c_47
        obtain ⟨r, q1, q2⟩ := hrow x hxx
        obtain ⟨i, h_i, e_i⟩ := row_yes q2 q1 c_34 n_47
        replace hl : lv_has ls 6 [(5, .int (nI i)), (0, .ref (adr 0)), (1, .int (nI x)), (2, .int (nI 1)), (3, .int (nI fa)), (4, .int (nI fb))] := by rw [← e_i]; exact hl
        refine lv_iload_n hx hb dX7_inOut_56 rfl (lv_at hl 3 rfl) ?_
        refine nv_if_eq (by omega) hx hb dX7_inOut_57 (tgt := 82) (by decide) (fun c_57 => absurd c_57 (by omega)) (fun c_57 => ?_)
        refine lv_aload_n hx hb dX7_inOut_60 rfl (lv_at hl 1 rfl) ?_
        refine rg_9 F hK hR dX7_inOut_61 ?_
        refine lv_bipush (v := nI 20) hx hb dX7_inOut_64 (by decide) ?_
        refine lv_iload_n hx hb dX7_inOut_66 rfl (lv_at hl 2 rfl) ?_
        refine nv_imul hx hb dX7_inOut_67 ?_
        refine lv_iload hx hb dX7_inOut_68 (lv_at hl 0 rfl) ?_
        refine nv_iadd hx hb dX7_inOut_70 ?_
        refine lv_aload_n hx hb dX7_inOut_71 rfl (lv_at hl 1 rfl) ?_
        refine lv_iload_n hx hb dX7_inOut_72 rfl (lv_at hl 2 rfl) ?_
        refine lv_iload hx hb dX7_inOut_73 (lv_at hl 5 rfl) ?_
        refine gcVi (As := [.int (nI x), .int (nI fb)]) F hK hR hml cv_X7_162 (o := 0) rfl rfl rfl (c_X7_get l G A adr S X x fb (by omega) (by omega)) ⟨rfl, rfl⟩ ⟨Nat.le_of_ble_eq_true rfl, Nat.le_of_ble_eq_true rfl⟩ rfl rfl hl.1 (Nat.le_of_ble_eq_true rfl) dX7_inOut_75 ⟨Nat.zero_le _, Nat.zero_le _⟩ (fun H locs hR => ?_)
        refine rs_9 F hK hR (by omega) dX7_inOut_78 (fun H locs hR => ?_)
        refine lv_goto (tgt := 100) hx hb dX7_inOut_79 (by decide) ?_
        refine lv_iconst (v := (-1)) hx hb dX7_inOut_100 (by decide) ?_
        exact gr_i F hr hlk hK hR dX7_inOut_101 (by rw [sp_inR, if_neg c_6, if_neg c_34, if_neg n_47]) (by rw [sp_inS, if_neg c_6, if_neg c_34, if_neg n_47, e_i, nI_clamp (by omega)])
      · have n_47 := Int32.not_lt.mp c_47
        refine lv_aload_n hx hb dX7_inOut_50 rfl (lv_at hl 1 rfl) ?_
        refine lv_iconst (v := nI 5) hx hb dX7_inOut_51 (by decide) ?_
        refine gcVi (As := [.int (nI 5)]) F hK hR hml cv_X7_111 (o := 0) rfl rfl rfl (c_X7_arise l G A adr S X (nI 5)) ⟨rfl, rfl⟩ ⟨Nat.le_of_ble_eq_true rfl, Nat.le_of_ble_eq_true rfl⟩ rfl rfl hl.1 (Nat.le_of_ble_eq_true rfl) dX7_inOut_52 ⟨Nat.zero_le _, Nat.zero_le _⟩ (fun H locs hR => ?_)
        exact gr_i F hr hlk hK hR dX7_inOut_55 (by unfold sp_inR; repeat (first | rw [if_pos c_6] | rw [if_neg c_6] | rw [if_neg (not_not_intro c_6)] | rw [if_pos c_18] | rw [if_neg c_18] | rw [if_neg (not_not_intro c_18)] | rw [if_pos c_34] | rw [if_neg c_34] | rw [if_neg (not_not_intro c_34)] | rw [if_pos n_34] | rw [if_neg n_34] | rw [if_neg (not_not_intro n_34)] | rw [if_pos c_47] | rw [if_neg c_47] | rw [if_neg (not_not_intro c_47)] | rw [if_pos n_47] | rw [if_neg n_47] | rw [if_neg (not_not_intro n_47)])) (by unfold sp_inS; repeat (first | rw [if_pos c_6] | rw [if_neg c_6] | rw [if_neg (not_not_intro c_6)] | rw [if_pos c_18] | rw [if_neg c_18] | rw [if_neg (not_not_intro c_18)] | rw [if_pos c_34] | rw [if_neg c_34] | rw [if_neg (not_not_intro c_34)] | rw [if_pos n_34] | rw [if_neg n_34] | rw [if_neg (not_not_intro n_34)] | rw [if_pos c_47] | rw [if_neg c_47] | rw [if_neg (not_not_intro c_47)] | rw [if_pos n_47] | rw [if_neg n_47] | rw [if_neg (not_not_intro n_47)]))
  · refine lv_aload_n hx hb dX7_inOut_9 rfl (lv_at hl 0 rfl) ?_
    refine lv_iconst (v := nI 4) hx hb dX7_inOut_10 (by decide) ?_
    refine gcVi (As := [.int (nI 4)]) F hK hR hml cv_X7_111 (o := 0) rfl rfl rfl (c_X7_arise l G A adr S X (nI 4)) ⟨rfl, rfl⟩ ⟨Nat.le_of_ble_eq_true rfl, Nat.le_of_ble_eq_true rfl⟩ rfl rfl hl.1 (Nat.le_of_ble_eq_true rfl) dX7_inOut_11 ⟨Nat.zero_le _, Nat.zero_le _⟩ (fun H locs hR => ?_)
    exact gr_i F hr hlk hK hR dX7_inOut_14 (by unfold sp_inR; repeat (first | rw [if_pos c_6] | rw [if_neg c_6] | rw [if_neg (not_not_intro c_6)])) (by unfold sp_inS; repeat (first | rw [if_pos c_6] | rw [if_neg c_6] | rw [if_neg (not_not_intro c_6)]))
set_option maxHeartbeats 4000000 in
set_option maxRecDepth 100000 in
/-- inOut(x, False, a, b) -/
theorem c_X7_inOut0 (l : Launch) (G : gw_G) (A : Nat → Prop) (adr : Nat → Nat) (S X : Nat → Nat → Int32) (x fa fb : Nat) (hxx : x < 12) (hfa : fa < 4) (hfb : fb < 4) (hrow : ∀ x, x < 12 → ∃ r, r ≤ 21 ∧ S 8 x = nI r) : gm l yX7_inOut cX7_inOut 6 (some .int) (rmL 1) 0 0 A [.ref (adr 0), .int (nI x), .int (nI 0), .int (nI fa), .int (nI fb)] (gW G A adr (rcel G adr S X)) (gW G A adr (rcel G adr (sp_outS S x fa fb) X)) (some (.int (sp_inR S x fb))) := by
  refine gm_of (own := RX7) (by decide) rfl (Nat.le_of_ble_eq_true rfl) ?_
  intro p e s m below meth c ls F hml hr hlk hnm hK hR hl
  have hx := F.1
  have hb := F.2.1
  have hl : lv_has ls 6 [(0, .ref (adr 0)), (1, .int (nI x)), (2, .int (nI 0)), (3, .int (nI fa)), (4, .int (nI fb))] := hl
  refine lv_aload_n hx hb dX7_inOut_0 rfl (lv_at hl 0 rfl) ?_
  refine rg_8 F hK hR dX7_inOut_1 ?_
  refine lv_iload_n hx hb dX7_inOut_4 rfl (lv_at hl 1 rfl) ?_
  refine ri_8 F hK hR (by omega) dX7_inOut_5 ?_
  refine lv_if_ne (tgt := 15) hx hb dX7_inOut_6 (by decide) (fun c_6 => ?_) (fun c_6 => ?_)
  · refine lv_aload_n hx hb dX7_inOut_15 rfl (lv_at hl 0 rfl) ?_
    refine lv_iload_n hx hb dX7_inOut_16 rfl (lv_at hl 1 rfl) ?_
    refine lv_iload_n hx hb dX7_inOut_17 rfl (lv_at hl 2 rfl) ?_
    refine nv_if_eq (by omega) hx hb dX7_inOut_18 (tgt := 25) (by decide) (fun c_18 => ?_) (fun c_18 => absurd c_18 (by omega))
    refine lv_iload hx hb dX7_inOut_25 (lv_at hl 4 rfl) ?_
    refine gcVi (As := [.int (nI x), .int (nI fb)]) F hK hR hml cv_X7_162 (o := 0) rfl rfl rfl (c_X7_get l G A adr S X x fb (by omega) (by omega)) ⟨rfl, rfl⟩ ⟨Nat.le_of_ble_eq_true rfl, Nat.le_of_ble_eq_true rfl⟩ rfl rfl hl.1 (Nat.le_of_ble_eq_true rfl) dX7_inOut_27 ⟨Nat.zero_le _, Nat.zero_le _⟩ (fun H locs hR => ?_)
    refine lv_istore (lv' := [(5, .int (sp_get S x fb)), (0, .ref (adr 0)), (1, .int (nI x)), (2, .int (nI 0)), (3, .int (nI fa)), (4, .int (nI fb))]) hx hb dX7_inOut_30 hl (by decide) rfl (fun ls hl => ?_)
    refine lv_iload hx hb dX7_inOut_32 (lv_at hl 0 rfl) ?_
    refine lv_if_lt (tgt := 50) hx hb dX7_inOut_34 (by decide) (fun c_34 => ?_) (fun c_34 => ?_)
    · have n_34 := Int32.not_le.mpr c_34
      refine lv_aload_n hx hb dX7_inOut_50 rfl (lv_at hl 1 rfl) ?_
      refine lv_iconst (v := nI 5) hx hb dX7_inOut_51 (by decide) ?_
      refine gcVi (As := [.int (nI 5)]) F hK hR hml cv_X7_111 (o := 0) rfl rfl rfl (c_X7_arise l G A adr S X (nI 5)) ⟨rfl, rfl⟩ ⟨Nat.le_of_ble_eq_true rfl, Nat.le_of_ble_eq_true rfl⟩ rfl rfl hl.1 (Nat.le_of_ble_eq_true rfl) dX7_inOut_52 ⟨Nat.zero_le _, Nat.zero_le _⟩ (fun H locs hR => ?_)
      exact gr_i F hr hlk hK hR dX7_inOut_55 (by unfold sp_inR; repeat (first | rw [if_pos c_6] | rw [if_neg c_6] | rw [if_neg (not_not_intro c_6)] | rw [if_pos c_18] | rw [if_neg c_18] | rw [if_neg (not_not_intro c_18)] | rw [if_pos c_34] | rw [if_neg c_34] | rw [if_neg (not_not_intro c_34)] | rw [if_pos n_34] | rw [if_neg n_34] | rw [if_neg (not_not_intro n_34)])) (by unfold sp_outS; repeat (first | rw [if_pos c_6] | rw [if_neg c_6] | rw [if_neg (not_not_intro c_6)] | rw [if_pos c_18] | rw [if_neg c_18] | rw [if_neg (not_not_intro c_18)] | rw [if_pos c_34] | rw [if_neg c_34] | rw [if_neg (not_not_intro c_34)] | rw [if_pos n_34] | rw [if_neg n_34] | rw [if_neg (not_not_intro n_34)]))
    · have n_34 := Int32.not_lt.mp c_34
      refine lv_iload hx hb dX7_inOut_37 (lv_at hl 0 rfl) ?_
      refine lv_aload_n hx hb dX7_inOut_39 rfl (lv_at hl 1 rfl) ?_
      refine rg_8 F hK hR dX7_inOut_40 ?_
      refine lv_iload_n hx hb dX7_inOut_43 rfl (lv_at hl 2 rfl) ?_
      refine ri_8 F hK hR (by omega) dX7_inOut_44 ?_
      refine lv_iconst (v := nI 1) hx hb dX7_inOut_45 (by decide) ?_
      refine lv_isub hx hb dX7_inOut_46 ?_
      refine lv_icmp_lt (tgt := 56) hx hb dX7_inOut_47 (by decide) (fun c_47 => ?_) (fun c_47 => ?_)
      · have n_47 := Int32.not_le.mpr c_47
        obtain ⟨r, q1, q2⟩ := hrow x hxx
        obtain ⟨i, h_i, e_i⟩ := row_yes q2 q1 c_34 n_47
        replace hl : lv_has ls 6 [(5, .int (nI i)), (0, .ref (adr 0)), (1, .int (nI x)), (2, .int (nI 0)), (3, .int (nI fa)), (4, .int (nI fb))] := by rw [← e_i]; exact hl
        refine lv_iload_n hx hb dX7_inOut_56 rfl (lv_at hl 3 rfl) ?_
        refine nv_if_eq (by omega) hx hb dX7_inOut_57 (tgt := 82) (by decide) (fun c_57 => ?_) (fun c_57 => absurd c_57 (by omega))
        refine lv_aload_n hx hb dX7_inOut_82 rfl (lv_at hl 1 rfl) ?_
        refine lv_iload_n hx hb dX7_inOut_83 rfl (lv_at hl 2 rfl) ?_
        refine lv_iload_n hx hb dX7_inOut_84 rfl (lv_at hl 4 rfl) ?_
        refine lv_aload_n hx hb dX7_inOut_85 rfl (lv_at hl 1 rfl) ?_
        refine rg_9 F hK hR dX7_inOut_86 ?_
        refine lv_bipush (v := nI 20) hx hb dX7_inOut_89 (by decide) ?_
        refine lv_iload_n hx hb dX7_inOut_91 rfl (lv_at hl 2 rfl) ?_
        refine nv_imul hx hb dX7_inOut_92 ?_
        refine lv_iload hx hb dX7_inOut_93 (lv_at hl 0 rfl) ?_
        refine nv_iadd hx hb dX7_inOut_95 ?_
        refine ri_9 F hK hR (by omega) dX7_inOut_96 ?_
        refine gcVv (As := [.int (nI x), .int (nI fa), .int (S 9 (20 * x + i))]) F hK hR hml cv_X7_156 (o := 0) rfl rfl rfl (c_X7_set l G A adr S X x fa (S 9 (20 * x + i)) (by omega) (by omega)) ⟨rfl, rfl⟩ ⟨Nat.le_of_ble_eq_true rfl, Nat.le_of_ble_eq_true rfl⟩ rfl rfl hl.1 (Nat.le_of_ble_eq_true rfl) dX7_inOut_97 ⟨Nat.zero_le _, Nat.zero_le _⟩ (fun H locs hR => ?_)
        refine lv_iconst (v := (-1)) hx hb dX7_inOut_100 (by decide) ?_
        exact gr_i F hr hlk hK hR dX7_inOut_101 (by rw [sp_inR, if_neg c_6, if_neg c_34, if_neg n_47]) (by rw [sp_outS, if_neg c_6, if_neg c_34, if_neg n_47, e_i, nI_clamp (by omega)])
      · have n_47 := Int32.not_lt.mp c_47
        refine lv_aload_n hx hb dX7_inOut_50 rfl (lv_at hl 1 rfl) ?_
        refine lv_iconst (v := nI 5) hx hb dX7_inOut_51 (by decide) ?_
        refine gcVi (As := [.int (nI 5)]) F hK hR hml cv_X7_111 (o := 0) rfl rfl rfl (c_X7_arise l G A adr S X (nI 5)) ⟨rfl, rfl⟩ ⟨Nat.le_of_ble_eq_true rfl, Nat.le_of_ble_eq_true rfl⟩ rfl rfl hl.1 (Nat.le_of_ble_eq_true rfl) dX7_inOut_52 ⟨Nat.zero_le _, Nat.zero_le _⟩ (fun H locs hR => ?_)
        exact gr_i F hr hlk hK hR dX7_inOut_55 (by unfold sp_inR; repeat (first | rw [if_pos c_6] | rw [if_neg c_6] | rw [if_neg (not_not_intro c_6)] | rw [if_pos c_18] | rw [if_neg c_18] | rw [if_neg (not_not_intro c_18)] | rw [if_pos c_34] | rw [if_neg c_34] | rw [if_neg (not_not_intro c_34)] | rw [if_pos n_34] | rw [if_neg n_34] | rw [if_neg (not_not_intro n_34)] | rw [if_pos c_47] | rw [if_neg c_47] | rw [if_neg (not_not_intro c_47)] | rw [if_pos n_47] | rw [if_neg n_47] | rw [if_neg (not_not_intro n_47)])) (by unfold sp_outS; repeat (first | rw [if_pos c_6] | rw [if_neg c_6] | rw [if_neg (not_not_intro c_6)] | rw [if_pos c_18] | rw [if_neg c_18] | rw [if_neg (not_not_intro c_18)] | rw [if_pos c_34] | rw [if_neg c_34] | rw [if_neg (not_not_intro c_34)] | rw [if_pos n_34] | rw [if_neg n_34] | rw [if_neg (not_not_intro n_34)] | rw [if_pos c_47] | rw [if_neg c_47] | rw [if_neg (not_not_intro c_47)] | rw [if_pos n_47] | rw [if_neg n_47] | rw [if_neg (not_not_intro n_47)]))
  · refine lv_aload_n hx hb dX7_inOut_9 rfl (lv_at hl 0 rfl) ?_
    refine lv_iconst (v := nI 4) hx hb dX7_inOut_10 (by decide) ?_
    refine gcVi (As := [.int (nI 4)]) F hK hR hml cv_X7_111 (o := 0) rfl rfl rfl (c_X7_arise l G A adr S X (nI 4)) ⟨rfl, rfl⟩ ⟨Nat.le_of_ble_eq_true rfl, Nat.le_of_ble_eq_true rfl⟩ rfl rfl hl.1 (Nat.le_of_ble_eq_true rfl) dX7_inOut_11 ⟨Nat.zero_le _, Nat.zero_le _⟩ (fun H locs hR => ?_)
    exact gr_i F hr hlk hK hR dX7_inOut_14 (by unfold sp_inR; repeat (first | rw [if_pos c_6] | rw [if_neg c_6] | rw [if_neg (not_not_intro c_6)])) (by unfold sp_outS; repeat (first | rw [if_pos c_6] | rw [if_neg c_6] | rw [if_neg (not_not_intro c_6)]))
set_option maxHeartbeats 4000000 in
set_option maxRecDepth 100000 in
/-- other(x, 1, a, z, c) -/
theorem c_X7_other1 (l : Launch) (G : gw_G) (A : Nat → Prop) (adr : Nat → Nat) (S X : Nat → Nat → Int32) (x fa z g : Nat) (hxx : x < 12) (hfa : fa < 4) (hz : z < 12) (hg : g < 4) : gm l yX7_other cX7_other 8 (some .int) (rmL 1) 0 0 A [.ref (adr 0), .int (nI x), .int (nI 1), .int (nI fa), .int (nI z), .int (nI g)] (gW G A adr (rcel G adr S X)) (gW G A adr (rcel G adr (sp_addS S x fa z g) X)) (some (.int (-1))) := by
  refine gm_of (own := RX7) (by decide) rfl (Nat.le_of_ble_eq_true rfl) ?_
  intro p e s m below meth c ls F hml hr hlk hnm hK hR hl
  have hx := F.1
  have hb := F.2.1
  have hl : lv_has ls 8 [(0, .ref (adr 0)), (1, .int (nI x)), (2, .int (nI 1)), (3, .int (nI fa)), (4, .int (nI z)), (5, .int (nI g))] := hl
  refine lv_aload_n hx hb dX7_other_0 rfl (lv_at hl 0 rfl) ?_
  refine rg_7 F hK hR dX7_other_1 ?_
  refine lv_iconst (v := nI 4) hx hb dX7_other_4 (by decide) ?_
  refine lv_iload hx hb dX7_other_5 (lv_at hl 4 rfl) ?_
  refine nv_imul hx hb dX7_other_7 ?_
  refine lv_iload hx hb dX7_other_8 (lv_at hl 5 rfl) ?_
  refine nv_iadd hx hb dX7_other_10 ?_
  refine ri_7 F hK hR (by omega) dX7_other_11 ?_
  refine lv_if_ne (tgt := 19) hx hb dX7_other_12 (by decide) (fun c_12 => ?_) (fun c_12 => ?_)
  · refine lv_iconst (v := nI 0) hx hb dX7_other_19 (by decide) ?_
    refine lv_istore (lv' := [(6, .int (nI 0)), (0, .ref (adr 0)), (1, .int (nI x)), (2, .int (nI 1)), (3, .int (nI fa)), (4, .int (nI z)), (5, .int (nI g))]) hx hb dX7_other_20 hl (by decide) rfl (fun ls hl => ?_)
    refine lv_iload_n hx hb dX7_other_22 rfl (lv_at hl 3 rfl) ?_
    refine lv_iconst (v := nI 2) hx hb dX7_other_23 (by decide) ?_
    refine nv_icmp_ne (by omega) (by omega) hx hb dX7_other_24 (tgt := 43) (by decide) (fun c_24 => ?_) (fun c_24 => absurd c_24 (by omega))
    refine lv_aload_n hx hb dX7_other_43 rfl (lv_at hl 1 rfl) ?_
    refine lv_dup hx hb dX7_other_44 rfl ?_
    refine rg_16 F hK hR dX7_other_45 ?_
    refine lv_iload hx hb dX7_other_48 (lv_at hl 0 rfl) ?_
    refine nv_if_eq (by omega) hx hb dX7_other_50 (tgt := 74) (by decide) (fun c_50 => ?_) (fun c_50 => absurd c_50 (by omega))
    refine lv_iconst (v := nI 0) hx hb dX7_other_74 (by decide) ?_
    refine lv_iadd hx hb dX7_other_75 ?_
    refine rp_16 F hK hR dX7_other_76 (fun H locs hR => ?_)
    replace hR : rB G A adr (sp_half S x z g) X s.heap H locs := gw_B.to hR (by unfold sp_half; repeat (first | rw [if_pos c_12] | rw [if_neg c_12] | rw [if_neg (not_not_intro c_12)] | rw [if_pos c_24] | rw [if_neg c_24] | rw [if_neg (not_not_intro c_24)] | rw [if_pos c_50] | rw [if_neg c_50] | rw [if_neg (not_not_intro c_50)]))
    refine lv_aload_n hx hb dX7_other_79 rfl (lv_at hl 1 rfl) ?_
    refine lv_iload hx hb dX7_other_80 (lv_at hl 5 rfl) ?_
    refine lv_iload hx hb dX7_other_82 (lv_at hl 6 rfl) ?_
    refine gcVi (As := [.int (nI z), .int (nI g)]) F hK hR hml cv_X7_162 (o := 0) rfl rfl rfl (c_X7_get l G A adr (sp_half S x z g) X z g (by omega) (by omega)) ⟨rfl, rfl⟩ ⟨Nat.le_of_ble_eq_true rfl, Nat.le_of_ble_eq_true rfl⟩ rfl rfl hl.1 (Nat.le_of_ble_eq_true rfl) dX7_other_84 ⟨Nat.zero_le _, Nat.zero_le _⟩ (fun H locs hR => ?_)
    refine lv_istore (lv' := [(7, .int (sp_get (sp_half S x z g) z g)), (6, .int (nI 0)), (0, .ref (adr 0)), (1, .int (nI x)), (2, .int (nI 1)), (3, .int (nI fa)), (4, .int (nI z)), (5, .int (nI g))]) hx hb dX7_other_87 hl (by decide) rfl (fun ls hl => ?_)
    refine lv_iload_n hx hb dX7_other_89 rfl (lv_at hl 4 rfl) ?_
    refine lv_iconst (v := nI 1) hx hb dX7_other_90 (by decide) ?_
    refine nv_icmp_ne (by omega) (by omega) hx hb dX7_other_91 (tgt := 111) (by decide) (fun c_91 => absurd c_91 (by omega)) (fun c_91 => ?_)
    refine lv_aload_n hx hb dX7_other_94 rfl (lv_at hl 2 rfl) ?_
    refine lv_iload_n hx hb dX7_other_95 rfl (lv_at hl 3 rfl) ?_
    refine lv_iload_n hx hb dX7_other_96 rfl (lv_at hl 5 rfl) ?_
    refine lv_aload_n hx hb dX7_other_97 rfl (lv_at hl 2 rfl) ?_
    refine lv_iload_n hx hb dX7_other_98 rfl (lv_at hl 3 rfl) ?_
    refine lv_iload_n hx hb dX7_other_99 rfl (lv_at hl 5 rfl) ?_
    refine gcVi (As := [.int (nI x), .int (nI fa)]) F hK hR hml cv_X7_162 (o := 0) rfl rfl rfl (c_X7_get l G A adr (sp_half S x z g) X x fa (by omega) (by omega)) ⟨rfl, rfl⟩ ⟨Nat.le_of_ble_eq_true rfl, Nat.le_of_ble_eq_true rfl⟩ rfl rfl hl.1 (Nat.le_of_ble_eq_true rfl) dX7_other_100 ⟨Nat.zero_le _, Nat.zero_le _⟩ (fun H locs hR => ?_)
    refine lv_iload hx hb dX7_other_103 (lv_at hl 0 rfl) ?_
    refine lv_iadd hx hb dX7_other_105 ?_
    refine gcVv (As := [.int (nI x), .int (nI fa), .int ((sp_get (sp_half S x z g) x fa) + (sp_get (sp_half S x z g) z g))]) F hK hR hml cv_X7_156 (o := 0) rfl rfl rfl (c_X7_set l G A adr (sp_half S x z g) X x fa ((sp_get (sp_half S x z g) x fa) + (sp_get (sp_half S x z g) z g)) (by omega) (by omega)) ⟨rfl, rfl⟩ ⟨Nat.le_of_ble_eq_true rfl, Nat.le_of_ble_eq_true rfl⟩ rfl rfl hl.1 (Nat.le_of_ble_eq_true rfl) dX7_other_106 ⟨Nat.zero_le _, Nat.zero_le _⟩ (fun H locs hR => ?_)
    refine lv_iconst (v := (-1)) hx hb dX7_other_109 (by decide) ?_
    exact gr_i F hr hlk hK hR dX7_other_110 (rfl) (rfl)
  · refine lv_iconst (v := nI 1) hx hb dX7_other_15 (by decide) ?_
    refine lv_goto (tgt := 20) hx hb dX7_other_16 (by decide) ?_
    refine lv_istore (lv' := [(6, .int (nI 1)), (0, .ref (adr 0)), (1, .int (nI x)), (2, .int (nI 1)), (3, .int (nI fa)), (4, .int (nI z)), (5, .int (nI g))]) hx hb dX7_other_20 hl (by decide) rfl (fun ls hl => ?_)
    refine lv_iload_n hx hb dX7_other_22 rfl (lv_at hl 3 rfl) ?_
    refine lv_iconst (v := nI 2) hx hb dX7_other_23 (by decide) ?_
    refine nv_icmp_ne (by omega) (by omega) hx hb dX7_other_24 (tgt := 43) (by decide) (fun c_24 => ?_) (fun c_24 => absurd c_24 (by omega))
    refine lv_aload_n hx hb dX7_other_43 rfl (lv_at hl 1 rfl) ?_
    refine lv_dup hx hb dX7_other_44 rfl ?_
    refine rg_16 F hK hR dX7_other_45 ?_
    refine lv_iload hx hb dX7_other_48 (lv_at hl 0 rfl) ?_
    refine nv_if_eq (by omega) hx hb dX7_other_50 (tgt := 74) (by decide) (fun c_50 => absurd c_50 (by omega)) (fun c_50 => ?_)
    refine lv_iload hx hb dX7_other_53 (lv_at hl 5 rfl) ?_
    refine lv_iload_n hx hb dX7_other_55 rfl (lv_at hl 2 rfl) ?_
    refine nv_icmp_eq (by omega) (by omega) hx hb dX7_other_56 (tgt := 74) (by decide) (fun c_56 => ?_) (fun c_56 => ?_)
    · refine lv_iconst (v := nI 0) hx hb dX7_other_74 (by decide) ?_
      refine lv_iadd hx hb dX7_other_75 ?_
      refine rp_16 F hK hR dX7_other_76 (fun H locs hR => ?_)
      replace hR : rB G A adr (sp_half S x z g) X s.heap H locs := gw_B.to hR (by unfold sp_half; repeat (first | rw [if_pos c_12] | rw [if_neg c_12] | rw [if_neg (not_not_intro c_12)] | rw [if_pos c_24] | rw [if_neg c_24] | rw [if_neg (not_not_intro c_24)] | rw [if_pos c_50] | rw [if_neg c_50] | rw [if_neg (not_not_intro c_50)] | rw [if_pos c_56] | rw [if_neg c_56] | rw [if_neg (not_not_intro c_56)]))
      refine lv_aload_n hx hb dX7_other_79 rfl (lv_at hl 1 rfl) ?_
      refine lv_iload hx hb dX7_other_80 (lv_at hl 5 rfl) ?_
      refine lv_iload hx hb dX7_other_82 (lv_at hl 6 rfl) ?_
      refine gcVi (As := [.int (nI z), .int (nI g)]) F hK hR hml cv_X7_162 (o := 0) rfl rfl rfl (c_X7_get l G A adr (sp_half S x z g) X z g (by omega) (by omega)) ⟨rfl, rfl⟩ ⟨Nat.le_of_ble_eq_true rfl, Nat.le_of_ble_eq_true rfl⟩ rfl rfl hl.1 (Nat.le_of_ble_eq_true rfl) dX7_other_84 ⟨Nat.zero_le _, Nat.zero_le _⟩ (fun H locs hR => ?_)
      refine lv_istore (lv' := [(7, .int (sp_get (sp_half S x z g) z g)), (6, .int (nI 1)), (0, .ref (adr 0)), (1, .int (nI x)), (2, .int (nI 1)), (3, .int (nI fa)), (4, .int (nI z)), (5, .int (nI g))]) hx hb dX7_other_87 hl (by decide) rfl (fun ls hl => ?_)
      refine lv_iload_n hx hb dX7_other_89 rfl (lv_at hl 4 rfl) ?_
      refine lv_iconst (v := nI 1) hx hb dX7_other_90 (by decide) ?_
      refine nv_icmp_ne (by omega) (by omega) hx hb dX7_other_91 (tgt := 111) (by decide) (fun c_91 => absurd c_91 (by omega)) (fun c_91 => ?_)
      refine lv_aload_n hx hb dX7_other_94 rfl (lv_at hl 2 rfl) ?_
      refine lv_iload_n hx hb dX7_other_95 rfl (lv_at hl 3 rfl) ?_
      refine lv_iload_n hx hb dX7_other_96 rfl (lv_at hl 5 rfl) ?_
      refine lv_aload_n hx hb dX7_other_97 rfl (lv_at hl 2 rfl) ?_
      refine lv_iload_n hx hb dX7_other_98 rfl (lv_at hl 3 rfl) ?_
      refine lv_iload_n hx hb dX7_other_99 rfl (lv_at hl 5 rfl) ?_
      refine gcVi (As := [.int (nI x), .int (nI fa)]) F hK hR hml cv_X7_162 (o := 0) rfl rfl rfl (c_X7_get l G A adr (sp_half S x z g) X x fa (by omega) (by omega)) ⟨rfl, rfl⟩ ⟨Nat.le_of_ble_eq_true rfl, Nat.le_of_ble_eq_true rfl⟩ rfl rfl hl.1 (Nat.le_of_ble_eq_true rfl) dX7_other_100 ⟨Nat.zero_le _, Nat.zero_le _⟩ (fun H locs hR => ?_)
      refine lv_iload hx hb dX7_other_103 (lv_at hl 0 rfl) ?_
      refine lv_iadd hx hb dX7_other_105 ?_
      refine gcVv (As := [.int (nI x), .int (nI fa), .int ((sp_get (sp_half S x z g) x fa) + (sp_get (sp_half S x z g) z g))]) F hK hR hml cv_X7_156 (o := 0) rfl rfl rfl (c_X7_set l G A adr (sp_half S x z g) X x fa ((sp_get (sp_half S x z g) x fa) + (sp_get (sp_half S x z g) z g)) (by omega) (by omega)) ⟨rfl, rfl⟩ ⟨Nat.le_of_ble_eq_true rfl, Nat.le_of_ble_eq_true rfl⟩ rfl rfl hl.1 (Nat.le_of_ble_eq_true rfl) dX7_other_106 ⟨Nat.zero_le _, Nat.zero_le _⟩ (fun H locs hR => ?_)
      refine lv_iconst (v := (-1)) hx hb dX7_other_109 (by decide) ?_
      exact gr_i F hr hlk hK hR dX7_other_110 (rfl) (rfl)
    · refine lv_aload_n hx hb dX7_other_59 rfl (lv_at hl 1 rfl) ?_
      refine rg_12 F hK hR dX7_other_60 ?_
      refine lv_iload hx hb dX7_other_63 (lv_at hl 5 rfl) ?_
      refine ri_12 F hK hR (by omega) dX7_other_65 ?_
      refine lv_iconst (v := nI 1) hx hb dX7_other_66 (by decide) ?_
      refine lv_icmp_ne (tgt := 74) hx hb dX7_other_67 (by decide) (fun c_67 => ?_) (fun c_67 => ?_)
      · refine lv_iconst (v := nI 0) hx hb dX7_other_74 (by decide) ?_
        refine lv_iadd hx hb dX7_other_75 ?_
        refine rp_16 F hK hR dX7_other_76 (fun H locs hR => ?_)
        replace hR : rB G A adr (sp_half S x z g) X s.heap H locs := gw_B.to hR (by unfold sp_half; repeat (first | rw [if_pos c_12] | rw [if_neg c_12] | rw [if_neg (not_not_intro c_12)] | rw [if_pos c_24] | rw [if_neg c_24] | rw [if_neg (not_not_intro c_24)] | rw [if_pos c_50] | rw [if_neg c_50] | rw [if_neg (not_not_intro c_50)] | rw [if_pos c_56] | rw [if_neg c_56] | rw [if_neg (not_not_intro c_56)] | rw [if_pos c_67] | rw [if_neg c_67] | rw [if_neg (not_not_intro c_67)]))
        refine lv_aload_n hx hb dX7_other_79 rfl (lv_at hl 1 rfl) ?_
        refine lv_iload hx hb dX7_other_80 (lv_at hl 5 rfl) ?_
        refine lv_iload hx hb dX7_other_82 (lv_at hl 6 rfl) ?_
        refine gcVi (As := [.int (nI z), .int (nI g)]) F hK hR hml cv_X7_162 (o := 0) rfl rfl rfl (c_X7_get l G A adr (sp_half S x z g) X z g (by omega) (by omega)) ⟨rfl, rfl⟩ ⟨Nat.le_of_ble_eq_true rfl, Nat.le_of_ble_eq_true rfl⟩ rfl rfl hl.1 (Nat.le_of_ble_eq_true rfl) dX7_other_84 ⟨Nat.zero_le _, Nat.zero_le _⟩ (fun H locs hR => ?_)
        refine lv_istore (lv' := [(7, .int (sp_get (sp_half S x z g) z g)), (6, .int (nI 1)), (0, .ref (adr 0)), (1, .int (nI x)), (2, .int (nI 1)), (3, .int (nI fa)), (4, .int (nI z)), (5, .int (nI g))]) hx hb dX7_other_87 hl (by decide) rfl (fun ls hl => ?_)
        refine lv_iload_n hx hb dX7_other_89 rfl (lv_at hl 4 rfl) ?_
        refine lv_iconst (v := nI 1) hx hb dX7_other_90 (by decide) ?_
        refine nv_icmp_ne (by omega) (by omega) hx hb dX7_other_91 (tgt := 111) (by decide) (fun c_91 => absurd c_91 (by omega)) (fun c_91 => ?_)
        refine lv_aload_n hx hb dX7_other_94 rfl (lv_at hl 2 rfl) ?_
        refine lv_iload_n hx hb dX7_other_95 rfl (lv_at hl 3 rfl) ?_
        refine lv_iload_n hx hb dX7_other_96 rfl (lv_at hl 5 rfl) ?_
        refine lv_aload_n hx hb dX7_other_97 rfl (lv_at hl 2 rfl) ?_
        refine lv_iload_n hx hb dX7_other_98 rfl (lv_at hl 3 rfl) ?_
        refine lv_iload_n hx hb dX7_other_99 rfl (lv_at hl 5 rfl) ?_
        refine gcVi (As := [.int (nI x), .int (nI fa)]) F hK hR hml cv_X7_162 (o := 0) rfl rfl rfl (c_X7_get l G A adr (sp_half S x z g) X x fa (by omega) (by omega)) ⟨rfl, rfl⟩ ⟨Nat.le_of_ble_eq_true rfl, Nat.le_of_ble_eq_true rfl⟩ rfl rfl hl.1 (Nat.le_of_ble_eq_true rfl) dX7_other_100 ⟨Nat.zero_le _, Nat.zero_le _⟩ (fun H locs hR => ?_)
        refine lv_iload hx hb dX7_other_103 (lv_at hl 0 rfl) ?_
        refine lv_iadd hx hb dX7_other_105 ?_
        refine gcVv (As := [.int (nI x), .int (nI fa), .int ((sp_get (sp_half S x z g) x fa) + (sp_get (sp_half S x z g) z g))]) F hK hR hml cv_X7_156 (o := 0) rfl rfl rfl (c_X7_set l G A adr (sp_half S x z g) X x fa ((sp_get (sp_half S x z g) x fa) + (sp_get (sp_half S x z g) z g)) (by omega) (by omega)) ⟨rfl, rfl⟩ ⟨Nat.le_of_ble_eq_true rfl, Nat.le_of_ble_eq_true rfl⟩ rfl rfl hl.1 (Nat.le_of_ble_eq_true rfl) dX7_other_106 ⟨Nat.zero_le _, Nat.zero_le _⟩ (fun H locs hR => ?_)
        refine lv_iconst (v := (-1)) hx hb dX7_other_109 (by decide) ?_
        exact gr_i F hr hlk hK hR dX7_other_110 (rfl) (rfl)
      · refine lv_iconst (v := nI 1) hx hb dX7_other_70 (by decide) ?_
        refine lv_goto (tgt := 75) hx hb dX7_other_71 (by decide) ?_
        refine lv_iadd hx hb dX7_other_75 ?_
        refine rp_16 F hK hR dX7_other_76 (fun H locs hR => ?_)
        replace hR : rB G A adr (sp_half S x z g) X s.heap H locs := gw_B.to hR (by unfold sp_half; repeat (first | rw [if_pos c_12] | rw [if_neg c_12] | rw [if_neg (not_not_intro c_12)] | rw [if_pos c_24] | rw [if_neg c_24] | rw [if_neg (not_not_intro c_24)] | rw [if_pos c_50] | rw [if_neg c_50] | rw [if_neg (not_not_intro c_50)] | rw [if_pos c_56] | rw [if_neg c_56] | rw [if_neg (not_not_intro c_56)] | rw [if_pos c_67] | rw [if_neg c_67] | rw [if_neg (not_not_intro c_67)]))
        refine lv_aload_n hx hb dX7_other_79 rfl (lv_at hl 1 rfl) ?_
        refine lv_iload hx hb dX7_other_80 (lv_at hl 5 rfl) ?_
        refine lv_iload hx hb dX7_other_82 (lv_at hl 6 rfl) ?_
        refine gcVi (As := [.int (nI z), .int (nI g)]) F hK hR hml cv_X7_162 (o := 0) rfl rfl rfl (c_X7_get l G A adr (sp_half S x z g) X z g (by omega) (by omega)) ⟨rfl, rfl⟩ ⟨Nat.le_of_ble_eq_true rfl, Nat.le_of_ble_eq_true rfl⟩ rfl rfl hl.1 (Nat.le_of_ble_eq_true rfl) dX7_other_84 ⟨Nat.zero_le _, Nat.zero_le _⟩ (fun H locs hR => ?_)
        refine lv_istore (lv' := [(7, .int (sp_get (sp_half S x z g) z g)), (6, .int (nI 1)), (0, .ref (adr 0)), (1, .int (nI x)), (2, .int (nI 1)), (3, .int (nI fa)), (4, .int (nI z)), (5, .int (nI g))]) hx hb dX7_other_87 hl (by decide) rfl (fun ls hl => ?_)
        refine lv_iload_n hx hb dX7_other_89 rfl (lv_at hl 4 rfl) ?_
        refine lv_iconst (v := nI 1) hx hb dX7_other_90 (by decide) ?_
        refine nv_icmp_ne (by omega) (by omega) hx hb dX7_other_91 (tgt := 111) (by decide) (fun c_91 => absurd c_91 (by omega)) (fun c_91 => ?_)
        refine lv_aload_n hx hb dX7_other_94 rfl (lv_at hl 2 rfl) ?_
        refine lv_iload_n hx hb dX7_other_95 rfl (lv_at hl 3 rfl) ?_
        refine lv_iload_n hx hb dX7_other_96 rfl (lv_at hl 5 rfl) ?_
        refine lv_aload_n hx hb dX7_other_97 rfl (lv_at hl 2 rfl) ?_
        refine lv_iload_n hx hb dX7_other_98 rfl (lv_at hl 3 rfl) ?_
        refine lv_iload_n hx hb dX7_other_99 rfl (lv_at hl 5 rfl) ?_
        refine gcVi (As := [.int (nI x), .int (nI fa)]) F hK hR hml cv_X7_162 (o := 0) rfl rfl rfl (c_X7_get l G A adr (sp_half S x z g) X x fa (by omega) (by omega)) ⟨rfl, rfl⟩ ⟨Nat.le_of_ble_eq_true rfl, Nat.le_of_ble_eq_true rfl⟩ rfl rfl hl.1 (Nat.le_of_ble_eq_true rfl) dX7_other_100 ⟨Nat.zero_le _, Nat.zero_le _⟩ (fun H locs hR => ?_)
        refine lv_iload hx hb dX7_other_103 (lv_at hl 0 rfl) ?_
        refine lv_iadd hx hb dX7_other_105 ?_
        refine gcVv (As := [.int (nI x), .int (nI fa), .int ((sp_get (sp_half S x z g) x fa) + (sp_get (sp_half S x z g) z g))]) F hK hR hml cv_X7_156 (o := 0) rfl rfl rfl (c_X7_set l G A adr (sp_half S x z g) X x fa ((sp_get (sp_half S x z g) x fa) + (sp_get (sp_half S x z g) z g)) (by omega) (by omega)) ⟨rfl, rfl⟩ ⟨Nat.le_of_ble_eq_true rfl, Nat.le_of_ble_eq_true rfl⟩ rfl rfl hl.1 (Nat.le_of_ble_eq_true rfl) dX7_other_106 ⟨Nat.zero_le _, Nat.zero_le _⟩ (fun H locs hR => ?_)
        refine lv_iconst (v := (-1)) hx hb dX7_other_109 (by decide) ?_
        exact gr_i F hr hlk hK hR dX7_other_110 (rfl) (rfl)
set_option maxHeartbeats 4000000 in
set_option maxRecDepth 100000 in
/-- other(x, 2, a, z, c) -/
theorem c_X7_other2 (l : Launch) (G : gw_G) (A : Nat → Prop) (adr : Nat → Nat) (S X : Nat → Nat → Int32) (x fa z g : Nat) (hxx : x < 12) (hfa : fa < 4) (hz : z < 12) (hg : g < 4) : gm l yX7_other cX7_other 8 (some .int) (rmL 1) 0 0 A [.ref (adr 0), .int (nI x), .int (nI 2), .int (nI fa), .int (nI z), .int (nI g)] (gW G A adr (rcel G adr S X)) (gW G A adr (rcel G adr (sp_putS S x fa z g) X)) (some (.int (-1))) := by
  refine gm_of (own := RX7) (by decide) rfl (Nat.le_of_ble_eq_true rfl) ?_
  intro p e s m below meth c ls F hml hr hlk hnm hK hR hl
  have hx := F.1
  have hb := F.2.1
  have hl : lv_has ls 8 [(0, .ref (adr 0)), (1, .int (nI x)), (2, .int (nI 2)), (3, .int (nI fa)), (4, .int (nI z)), (5, .int (nI g))] := hl
  refine lv_aload_n hx hb dX7_other_0 rfl (lv_at hl 0 rfl) ?_
  refine rg_7 F hK hR dX7_other_1 ?_
  refine lv_iconst (v := nI 4) hx hb dX7_other_4 (by decide) ?_
  refine lv_iload hx hb dX7_other_5 (lv_at hl 4 rfl) ?_
  refine nv_imul hx hb dX7_other_7 ?_
  refine lv_iload hx hb dX7_other_8 (lv_at hl 5 rfl) ?_
  refine nv_iadd hx hb dX7_other_10 ?_
  refine ri_7 F hK hR (by omega) dX7_other_11 ?_
  refine lv_if_ne (tgt := 19) hx hb dX7_other_12 (by decide) (fun c_12 => ?_) (fun c_12 => ?_)
  · refine lv_iconst (v := nI 0) hx hb dX7_other_19 (by decide) ?_
    refine lv_istore (lv' := [(6, .int (nI 0)), (0, .ref (adr 0)), (1, .int (nI x)), (2, .int (nI 2)), (3, .int (nI fa)), (4, .int (nI z)), (5, .int (nI g))]) hx hb dX7_other_20 hl (by decide) rfl (fun ls hl => ?_)
    refine lv_iload_n hx hb dX7_other_22 rfl (lv_at hl 3 rfl) ?_
    refine lv_iconst (v := nI 2) hx hb dX7_other_23 (by decide) ?_
    refine nv_icmp_ne (by omega) (by omega) hx hb dX7_other_24 (tgt := 43) (by decide) (fun c_24 => absurd c_24 (by omega)) (fun c_24 => ?_)
    refine lv_aload_n hx hb dX7_other_27 rfl (lv_at hl 1 rfl) ?_
    refine lv_iload hx hb dX7_other_28 (lv_at hl 5 rfl) ?_
    refine lv_iload hx hb dX7_other_30 (lv_at hl 6 rfl) ?_
    refine lv_aload_n hx hb dX7_other_32 rfl (lv_at hl 1 rfl) ?_
    refine lv_iload_n hx hb dX7_other_33 rfl (lv_at hl 2 rfl) ?_
    refine lv_iload_n hx hb dX7_other_34 rfl (lv_at hl 4 rfl) ?_
    refine gcVi (As := [.int (nI x), .int (nI fa)]) F hK hR hml cv_X7_162 (o := 0) rfl rfl rfl (c_X7_get l G A adr S X x fa (by omega) (by omega)) ⟨rfl, rfl⟩ ⟨Nat.le_of_ble_eq_true rfl, Nat.le_of_ble_eq_true rfl⟩ rfl rfl hl.1 (Nat.le_of_ble_eq_true rfl) dX7_other_35 ⟨Nat.zero_le _, Nat.zero_le _⟩ (fun H locs hR => ?_)
    refine gcVv (As := [.int (nI z), .int (nI g), .int (sp_get S x fa)]) F hK hR hml cv_X7_156 (o := 0) rfl rfl rfl (c_X7_set l G A adr S X z g (sp_get S x fa) (by omega) (by omega)) ⟨rfl, rfl⟩ ⟨Nat.le_of_ble_eq_true rfl, Nat.le_of_ble_eq_true rfl⟩ rfl rfl hl.1 (Nat.le_of_ble_eq_true rfl) dX7_other_38 ⟨Nat.zero_le _, Nat.zero_le _⟩ (fun H locs hR => ?_)
    refine lv_iconst (v := (-1)) hx hb dX7_other_41 (by decide) ?_
    exact gr_i F hr hlk hK hR dX7_other_42 (rfl) (rfl)
  · refine lv_iconst (v := nI 1) hx hb dX7_other_15 (by decide) ?_
    refine lv_goto (tgt := 20) hx hb dX7_other_16 (by decide) ?_
    refine lv_istore (lv' := [(6, .int (nI 1)), (0, .ref (adr 0)), (1, .int (nI x)), (2, .int (nI 2)), (3, .int (nI fa)), (4, .int (nI z)), (5, .int (nI g))]) hx hb dX7_other_20 hl (by decide) rfl (fun ls hl => ?_)
    refine lv_iload_n hx hb dX7_other_22 rfl (lv_at hl 3 rfl) ?_
    refine lv_iconst (v := nI 2) hx hb dX7_other_23 (by decide) ?_
    refine nv_icmp_ne (by omega) (by omega) hx hb dX7_other_24 (tgt := 43) (by decide) (fun c_24 => absurd c_24 (by omega)) (fun c_24 => ?_)
    refine lv_aload_n hx hb dX7_other_27 rfl (lv_at hl 1 rfl) ?_
    refine lv_iload hx hb dX7_other_28 (lv_at hl 5 rfl) ?_
    refine lv_iload hx hb dX7_other_30 (lv_at hl 6 rfl) ?_
    refine lv_aload_n hx hb dX7_other_32 rfl (lv_at hl 1 rfl) ?_
    refine lv_iload_n hx hb dX7_other_33 rfl (lv_at hl 2 rfl) ?_
    refine lv_iload_n hx hb dX7_other_34 rfl (lv_at hl 4 rfl) ?_
    refine gcVi (As := [.int (nI x), .int (nI fa)]) F hK hR hml cv_X7_162 (o := 0) rfl rfl rfl (c_X7_get l G A adr S X x fa (by omega) (by omega)) ⟨rfl, rfl⟩ ⟨Nat.le_of_ble_eq_true rfl, Nat.le_of_ble_eq_true rfl⟩ rfl rfl hl.1 (Nat.le_of_ble_eq_true rfl) dX7_other_35 ⟨Nat.zero_le _, Nat.zero_le _⟩ (fun H locs hR => ?_)
    refine gcVv (As := [.int (nI z), .int (nI g), .int (sp_get S x fa)]) F hK hR hml cv_X7_156 (o := 0) rfl rfl rfl (c_X7_set l G A adr S X z g (sp_get S x fa) (by omega) (by omega)) ⟨rfl, rfl⟩ ⟨Nat.le_of_ble_eq_true rfl, Nat.le_of_ble_eq_true rfl⟩ rfl rfl hl.1 (Nat.le_of_ble_eq_true rfl) dX7_other_38 ⟨Nat.zero_le _, Nat.zero_le _⟩ (fun H locs hR => ?_)
    refine lv_iconst (v := (-1)) hx hb dX7_other_41 (by decide) ?_
    exact gr_i F hr hlk hK hR dX7_other_42 (rfl) (rfl)
set_option maxHeartbeats 4000000 in
set_option maxRecDepth 100000 in
/-- other(x, 3, a, z, c) -/
theorem c_X7_other3 (l : Launch) (G : gw_G) (A : Nat → Prop) (adr : Nat → Nat) (S X : Nat → Nat → Int32) (x fa z g : Nat) (hxx : x < 12) (hfa : fa < 4) (hz : z < 12) (hg : g < 4) : gm l yX7_other cX7_other 8 (some .int) (rmL 1) 0 0 A [.ref (adr 0), .int (nI x), .int (nI 3), .int (nI fa), .int (nI z), .int (nI g)] (gW G A adr (rcel G adr S X)) (gW G A adr (rcel G adr (sp_divS S x fa z g) X)) (some (.int (sp_divR S x z g))) := by
  refine gm_of (own := RX7) (by decide) rfl (Nat.le_of_ble_eq_true rfl) ?_
  intro p e s m below meth c ls F hml hr hlk hnm hK hR hl
  have hx := F.1
  have hb := F.2.1
  have hl : lv_has ls 8 [(0, .ref (adr 0)), (1, .int (nI x)), (2, .int (nI 3)), (3, .int (nI fa)), (4, .int (nI z)), (5, .int (nI g))] := hl
  refine lv_aload_n hx hb dX7_other_0 rfl (lv_at hl 0 rfl) ?_
  refine rg_7 F hK hR dX7_other_1 ?_
  refine lv_iconst (v := nI 4) hx hb dX7_other_4 (by decide) ?_
  refine lv_iload hx hb dX7_other_5 (lv_at hl 4 rfl) ?_
  refine nv_imul hx hb dX7_other_7 ?_
  refine lv_iload hx hb dX7_other_8 (lv_at hl 5 rfl) ?_
  refine nv_iadd hx hb dX7_other_10 ?_
  refine ri_7 F hK hR (by omega) dX7_other_11 ?_
  refine lv_if_ne (tgt := 19) hx hb dX7_other_12 (by decide) (fun c_12 => ?_) (fun c_12 => ?_)
  · refine lv_iconst (v := nI 0) hx hb dX7_other_19 (by decide) ?_
    refine lv_istore (lv' := [(6, .int (nI 0)), (0, .ref (adr 0)), (1, .int (nI x)), (2, .int (nI 3)), (3, .int (nI fa)), (4, .int (nI z)), (5, .int (nI g))]) hx hb dX7_other_20 hl (by decide) rfl (fun ls hl => ?_)
    refine lv_iload_n hx hb dX7_other_22 rfl (lv_at hl 3 rfl) ?_
    refine lv_iconst (v := nI 2) hx hb dX7_other_23 (by decide) ?_
    refine nv_icmp_ne (by omega) (by omega) hx hb dX7_other_24 (tgt := 43) (by decide) (fun c_24 => ?_) (fun c_24 => absurd c_24 (by omega))
    refine lv_aload_n hx hb dX7_other_43 rfl (lv_at hl 1 rfl) ?_
    refine lv_dup hx hb dX7_other_44 rfl ?_
    refine rg_16 F hK hR dX7_other_45 ?_
    refine lv_iload hx hb dX7_other_48 (lv_at hl 0 rfl) ?_
    refine nv_if_eq (by omega) hx hb dX7_other_50 (tgt := 74) (by decide) (fun c_50 => ?_) (fun c_50 => absurd c_50 (by omega))
    refine lv_iconst (v := nI 0) hx hb dX7_other_74 (by decide) ?_
    refine lv_iadd hx hb dX7_other_75 ?_
    refine rp_16 F hK hR dX7_other_76 (fun H locs hR => ?_)
    replace hR : rB G A adr (sp_half S x z g) X s.heap H locs := gw_B.to hR (by unfold sp_half; repeat (first | rw [if_pos c_12] | rw [if_neg c_12] | rw [if_neg (not_not_intro c_12)] | rw [if_pos c_24] | rw [if_neg c_24] | rw [if_neg (not_not_intro c_24)] | rw [if_pos c_50] | rw [if_neg c_50] | rw [if_neg (not_not_intro c_50)]))
    refine lv_aload_n hx hb dX7_other_79 rfl (lv_at hl 1 rfl) ?_
    refine lv_iload hx hb dX7_other_80 (lv_at hl 5 rfl) ?_
    refine lv_iload hx hb dX7_other_82 (lv_at hl 6 rfl) ?_
    refine gcVi (As := [.int (nI z), .int (nI g)]) F hK hR hml cv_X7_162 (o := 0) rfl rfl rfl (c_X7_get l G A adr (sp_half S x z g) X z g (by omega) (by omega)) ⟨rfl, rfl⟩ ⟨Nat.le_of_ble_eq_true rfl, Nat.le_of_ble_eq_true rfl⟩ rfl rfl hl.1 (Nat.le_of_ble_eq_true rfl) dX7_other_84 ⟨Nat.zero_le _, Nat.zero_le _⟩ (fun H locs hR => ?_)
    refine lv_istore (lv' := [(7, .int (sp_get (sp_half S x z g) z g)), (6, .int (nI 0)), (0, .ref (adr 0)), (1, .int (nI x)), (2, .int (nI 3)), (3, .int (nI fa)), (4, .int (nI z)), (5, .int (nI g))]) hx hb dX7_other_87 hl (by decide) rfl (fun ls hl => ?_)
    refine lv_iload_n hx hb dX7_other_89 rfl (lv_at hl 4 rfl) ?_
    refine lv_iconst (v := nI 1) hx hb dX7_other_90 (by decide) ?_
    refine nv_icmp_ne (by omega) (by omega) hx hb dX7_other_91 (tgt := 111) (by decide) (fun c_91 => ?_) (fun c_91 => absurd c_91 (by omega))
    refine lv_iload hx hb dX7_other_111 (lv_at hl 0 rfl) ?_
    refine lv_if_ne (tgt := 122) hx hb dX7_other_113 (by decide) (fun c_113 => ?_) (fun c_113 => ?_)
    · refine lv_aload_n hx hb dX7_other_122 rfl (lv_at hl 2 rfl) ?_
      refine lv_iload_n hx hb dX7_other_123 rfl (lv_at hl 3 rfl) ?_
      refine lv_iload_n hx hb dX7_other_124 rfl (lv_at hl 5 rfl) ?_
      refine lv_aload_n hx hb dX7_other_125 rfl (lv_at hl 2 rfl) ?_
      refine lv_iload_n hx hb dX7_other_126 rfl (lv_at hl 3 rfl) ?_
      refine lv_iload_n hx hb dX7_other_127 rfl (lv_at hl 5 rfl) ?_
      refine gcVi (As := [.int (nI x), .int (nI fa)]) F hK hR hml cv_X7_162 (o := 0) rfl rfl rfl (c_X7_get l G A adr (sp_half S x z g) X x fa (by omega) (by omega)) ⟨rfl, rfl⟩ ⟨Nat.le_of_ble_eq_true rfl, Nat.le_of_ble_eq_true rfl⟩ rfl rfl hl.1 (Nat.le_of_ble_eq_true rfl) dX7_other_128 ⟨Nat.zero_le _, Nat.zero_le _⟩ (fun H locs hR => ?_)
      refine lv_iload hx hb dX7_other_131 (lv_at hl 0 rfl) ?_
      refine lv_idiv hx hb dX7_other_133 (c_113) ?_
      refine gcVv (As := [.int (nI x), .int (nI fa), .int ((sp_get (sp_half S x z g) x fa) / (sp_get (sp_half S x z g) z g))]) F hK hR hml cv_X7_156 (o := 0) rfl rfl rfl (c_X7_set l G A adr (sp_half S x z g) X x fa ((sp_get (sp_half S x z g) x fa) / (sp_get (sp_half S x z g) z g)) (by omega) (by omega)) ⟨rfl, rfl⟩ ⟨Nat.le_of_ble_eq_true rfl, Nat.le_of_ble_eq_true rfl⟩ rfl rfl hl.1 (Nat.le_of_ble_eq_true rfl) dX7_other_134 ⟨Nat.zero_le _, Nat.zero_le _⟩ (fun H locs hR => ?_)
      refine lv_iconst (v := (-1)) hx hb dX7_other_137 (by decide) ?_
      exact gr_i F hr hlk hK hR dX7_other_138 (by unfold sp_divR; repeat (first | rw [if_pos c_12] | rw [if_neg c_12] | rw [if_neg (not_not_intro c_12)] | rw [if_pos c_24] | rw [if_neg c_24] | rw [if_neg (not_not_intro c_24)] | rw [if_pos c_50] | rw [if_neg c_50] | rw [if_neg (not_not_intro c_50)] | rw [if_pos c_91] | rw [if_neg c_91] | rw [if_neg (not_not_intro c_91)] | rw [if_pos c_113] | rw [if_neg c_113] | rw [if_neg (not_not_intro c_113)])) (by unfold sp_divS; repeat (first | rw [if_pos c_12] | rw [if_neg c_12] | rw [if_neg (not_not_intro c_12)] | rw [if_pos c_24] | rw [if_neg c_24] | rw [if_neg (not_not_intro c_24)] | rw [if_pos c_50] | rw [if_neg c_50] | rw [if_neg (not_not_intro c_50)] | rw [if_pos c_91] | rw [if_neg c_91] | rw [if_neg (not_not_intro c_91)] | rw [if_pos c_113] | rw [if_neg c_113] | rw [if_neg (not_not_intro c_113)]))
    · refine lv_aload_n hx hb dX7_other_116 rfl (lv_at hl 2 rfl) ?_
      refine lv_iconst (v := nI 3) hx hb dX7_other_117 (by decide) ?_
      refine gcVi (As := [.int (nI 3)]) F hK hR hml cv_X7_111 (o := 0) rfl rfl rfl (c_X7_arise l G A adr (sp_half S x z g) X (nI 3)) ⟨rfl, rfl⟩ ⟨Nat.le_of_ble_eq_true rfl, Nat.le_of_ble_eq_true rfl⟩ rfl rfl hl.1 (Nat.le_of_ble_eq_true rfl) dX7_other_118 ⟨Nat.zero_le _, Nat.zero_le _⟩ (fun H locs hR => ?_)
      exact gr_i F hr hlk hK hR dX7_other_121 (by unfold sp_divR; repeat (first | rw [if_pos c_12] | rw [if_neg c_12] | rw [if_neg (not_not_intro c_12)] | rw [if_pos c_24] | rw [if_neg c_24] | rw [if_neg (not_not_intro c_24)] | rw [if_pos c_50] | rw [if_neg c_50] | rw [if_neg (not_not_intro c_50)] | rw [if_pos c_91] | rw [if_neg c_91] | rw [if_neg (not_not_intro c_91)] | rw [if_pos c_113] | rw [if_neg c_113] | rw [if_neg (not_not_intro c_113)])) (by unfold sp_divS; repeat (first | rw [if_pos c_12] | rw [if_neg c_12] | rw [if_neg (not_not_intro c_12)] | rw [if_pos c_24] | rw [if_neg c_24] | rw [if_neg (not_not_intro c_24)] | rw [if_pos c_50] | rw [if_neg c_50] | rw [if_neg (not_not_intro c_50)] | rw [if_pos c_91] | rw [if_neg c_91] | rw [if_neg (not_not_intro c_91)] | rw [if_pos c_113] | rw [if_neg c_113] | rw [if_neg (not_not_intro c_113)]))
  · refine lv_iconst (v := nI 1) hx hb dX7_other_15 (by decide) ?_
    refine lv_goto (tgt := 20) hx hb dX7_other_16 (by decide) ?_
    refine lv_istore (lv' := [(6, .int (nI 1)), (0, .ref (adr 0)), (1, .int (nI x)), (2, .int (nI 3)), (3, .int (nI fa)), (4, .int (nI z)), (5, .int (nI g))]) hx hb dX7_other_20 hl (by decide) rfl (fun ls hl => ?_)
    refine lv_iload_n hx hb dX7_other_22 rfl (lv_at hl 3 rfl) ?_
    refine lv_iconst (v := nI 2) hx hb dX7_other_23 (by decide) ?_
    refine nv_icmp_ne (by omega) (by omega) hx hb dX7_other_24 (tgt := 43) (by decide) (fun c_24 => ?_) (fun c_24 => absurd c_24 (by omega))
    refine lv_aload_n hx hb dX7_other_43 rfl (lv_at hl 1 rfl) ?_
    refine lv_dup hx hb dX7_other_44 rfl ?_
    refine rg_16 F hK hR dX7_other_45 ?_
    refine lv_iload hx hb dX7_other_48 (lv_at hl 0 rfl) ?_
    refine nv_if_eq (by omega) hx hb dX7_other_50 (tgt := 74) (by decide) (fun c_50 => absurd c_50 (by omega)) (fun c_50 => ?_)
    refine lv_iload hx hb dX7_other_53 (lv_at hl 5 rfl) ?_
    refine lv_iload_n hx hb dX7_other_55 rfl (lv_at hl 2 rfl) ?_
    refine nv_icmp_eq (by omega) (by omega) hx hb dX7_other_56 (tgt := 74) (by decide) (fun c_56 => ?_) (fun c_56 => ?_)
    · refine lv_iconst (v := nI 0) hx hb dX7_other_74 (by decide) ?_
      refine lv_iadd hx hb dX7_other_75 ?_
      refine rp_16 F hK hR dX7_other_76 (fun H locs hR => ?_)
      replace hR : rB G A adr (sp_half S x z g) X s.heap H locs := gw_B.to hR (by unfold sp_half; repeat (first | rw [if_pos c_12] | rw [if_neg c_12] | rw [if_neg (not_not_intro c_12)] | rw [if_pos c_24] | rw [if_neg c_24] | rw [if_neg (not_not_intro c_24)] | rw [if_pos c_50] | rw [if_neg c_50] | rw [if_neg (not_not_intro c_50)] | rw [if_pos c_56] | rw [if_neg c_56] | rw [if_neg (not_not_intro c_56)]))
      refine lv_aload_n hx hb dX7_other_79 rfl (lv_at hl 1 rfl) ?_
      refine lv_iload hx hb dX7_other_80 (lv_at hl 5 rfl) ?_
      refine lv_iload hx hb dX7_other_82 (lv_at hl 6 rfl) ?_
      refine gcVi (As := [.int (nI z), .int (nI g)]) F hK hR hml cv_X7_162 (o := 0) rfl rfl rfl (c_X7_get l G A adr (sp_half S x z g) X z g (by omega) (by omega)) ⟨rfl, rfl⟩ ⟨Nat.le_of_ble_eq_true rfl, Nat.le_of_ble_eq_true rfl⟩ rfl rfl hl.1 (Nat.le_of_ble_eq_true rfl) dX7_other_84 ⟨Nat.zero_le _, Nat.zero_le _⟩ (fun H locs hR => ?_)
      refine lv_istore (lv' := [(7, .int (sp_get (sp_half S x z g) z g)), (6, .int (nI 1)), (0, .ref (adr 0)), (1, .int (nI x)), (2, .int (nI 3)), (3, .int (nI fa)), (4, .int (nI z)), (5, .int (nI g))]) hx hb dX7_other_87 hl (by decide) rfl (fun ls hl => ?_)
      refine lv_iload_n hx hb dX7_other_89 rfl (lv_at hl 4 rfl) ?_
      refine lv_iconst (v := nI 1) hx hb dX7_other_90 (by decide) ?_
      refine nv_icmp_ne (by omega) (by omega) hx hb dX7_other_91 (tgt := 111) (by decide) (fun c_91 => ?_) (fun c_91 => absurd c_91 (by omega))
      refine lv_iload hx hb dX7_other_111 (lv_at hl 0 rfl) ?_
      refine lv_if_ne (tgt := 122) hx hb dX7_other_113 (by decide) (fun c_113 => ?_) (fun c_113 => ?_)
      · refine lv_aload_n hx hb dX7_other_122 rfl (lv_at hl 2 rfl) ?_
        refine lv_iload_n hx hb dX7_other_123 rfl (lv_at hl 3 rfl) ?_
        refine lv_iload_n hx hb dX7_other_124 rfl (lv_at hl 5 rfl) ?_
        refine lv_aload_n hx hb dX7_other_125 rfl (lv_at hl 2 rfl) ?_
        refine lv_iload_n hx hb dX7_other_126 rfl (lv_at hl 3 rfl) ?_
        refine lv_iload_n hx hb dX7_other_127 rfl (lv_at hl 5 rfl) ?_
        refine gcVi (As := [.int (nI x), .int (nI fa)]) F hK hR hml cv_X7_162 (o := 0) rfl rfl rfl (c_X7_get l G A adr (sp_half S x z g) X x fa (by omega) (by omega)) ⟨rfl, rfl⟩ ⟨Nat.le_of_ble_eq_true rfl, Nat.le_of_ble_eq_true rfl⟩ rfl rfl hl.1 (Nat.le_of_ble_eq_true rfl) dX7_other_128 ⟨Nat.zero_le _, Nat.zero_le _⟩ (fun H locs hR => ?_)
        refine lv_iload hx hb dX7_other_131 (lv_at hl 0 rfl) ?_
        refine lv_idiv hx hb dX7_other_133 (c_113) ?_
        refine gcVv (As := [.int (nI x), .int (nI fa), .int ((sp_get (sp_half S x z g) x fa) / (sp_get (sp_half S x z g) z g))]) F hK hR hml cv_X7_156 (o := 0) rfl rfl rfl (c_X7_set l G A adr (sp_half S x z g) X x fa ((sp_get (sp_half S x z g) x fa) / (sp_get (sp_half S x z g) z g)) (by omega) (by omega)) ⟨rfl, rfl⟩ ⟨Nat.le_of_ble_eq_true rfl, Nat.le_of_ble_eq_true rfl⟩ rfl rfl hl.1 (Nat.le_of_ble_eq_true rfl) dX7_other_134 ⟨Nat.zero_le _, Nat.zero_le _⟩ (fun H locs hR => ?_)
        refine lv_iconst (v := (-1)) hx hb dX7_other_137 (by decide) ?_
        exact gr_i F hr hlk hK hR dX7_other_138 (by unfold sp_divR; repeat (first | rw [if_pos c_12] | rw [if_neg c_12] | rw [if_neg (not_not_intro c_12)] | rw [if_pos c_24] | rw [if_neg c_24] | rw [if_neg (not_not_intro c_24)] | rw [if_pos c_50] | rw [if_neg c_50] | rw [if_neg (not_not_intro c_50)] | rw [if_pos c_56] | rw [if_neg c_56] | rw [if_neg (not_not_intro c_56)] | rw [if_pos c_91] | rw [if_neg c_91] | rw [if_neg (not_not_intro c_91)] | rw [if_pos c_113] | rw [if_neg c_113] | rw [if_neg (not_not_intro c_113)])) (by unfold sp_divS; repeat (first | rw [if_pos c_12] | rw [if_neg c_12] | rw [if_neg (not_not_intro c_12)] | rw [if_pos c_24] | rw [if_neg c_24] | rw [if_neg (not_not_intro c_24)] | rw [if_pos c_50] | rw [if_neg c_50] | rw [if_neg (not_not_intro c_50)] | rw [if_pos c_56] | rw [if_neg c_56] | rw [if_neg (not_not_intro c_56)] | rw [if_pos c_91] | rw [if_neg c_91] | rw [if_neg (not_not_intro c_91)] | rw [if_pos c_113] | rw [if_neg c_113] | rw [if_neg (not_not_intro c_113)]))
      · refine lv_aload_n hx hb dX7_other_116 rfl (lv_at hl 2 rfl) ?_
        refine lv_iconst (v := nI 3) hx hb dX7_other_117 (by decide) ?_
        refine gcVi (As := [.int (nI 3)]) F hK hR hml cv_X7_111 (o := 0) rfl rfl rfl (c_X7_arise l G A adr (sp_half S x z g) X (nI 3)) ⟨rfl, rfl⟩ ⟨Nat.le_of_ble_eq_true rfl, Nat.le_of_ble_eq_true rfl⟩ rfl rfl hl.1 (Nat.le_of_ble_eq_true rfl) dX7_other_118 ⟨Nat.zero_le _, Nat.zero_le _⟩ (fun H locs hR => ?_)
        exact gr_i F hr hlk hK hR dX7_other_121 (by unfold sp_divR; repeat (first | rw [if_pos c_12] | rw [if_neg c_12] | rw [if_neg (not_not_intro c_12)] | rw [if_pos c_24] | rw [if_neg c_24] | rw [if_neg (not_not_intro c_24)] | rw [if_pos c_50] | rw [if_neg c_50] | rw [if_neg (not_not_intro c_50)] | rw [if_pos c_56] | rw [if_neg c_56] | rw [if_neg (not_not_intro c_56)] | rw [if_pos c_91] | rw [if_neg c_91] | rw [if_neg (not_not_intro c_91)] | rw [if_pos c_113] | rw [if_neg c_113] | rw [if_neg (not_not_intro c_113)])) (by unfold sp_divS; repeat (first | rw [if_pos c_12] | rw [if_neg c_12] | rw [if_neg (not_not_intro c_12)] | rw [if_pos c_24] | rw [if_neg c_24] | rw [if_neg (not_not_intro c_24)] | rw [if_pos c_50] | rw [if_neg c_50] | rw [if_neg (not_not_intro c_50)] | rw [if_pos c_56] | rw [if_neg c_56] | rw [if_neg (not_not_intro c_56)] | rw [if_pos c_91] | rw [if_neg c_91] | rw [if_neg (not_not_intro c_91)] | rw [if_pos c_113] | rw [if_neg c_113] | rw [if_neg (not_not_intro c_113)]))
    · refine lv_aload_n hx hb dX7_other_59 rfl (lv_at hl 1 rfl) ?_
      refine rg_12 F hK hR dX7_other_60 ?_
      refine lv_iload hx hb dX7_other_63 (lv_at hl 5 rfl) ?_
      refine ri_12 F hK hR (by omega) dX7_other_65 ?_
      refine lv_iconst (v := nI 1) hx hb dX7_other_66 (by decide) ?_
      refine lv_icmp_ne (tgt := 74) hx hb dX7_other_67 (by decide) (fun c_67 => ?_) (fun c_67 => ?_)
      · refine lv_iconst (v := nI 0) hx hb dX7_other_74 (by decide) ?_
        refine lv_iadd hx hb dX7_other_75 ?_
        refine rp_16 F hK hR dX7_other_76 (fun H locs hR => ?_)
        replace hR : rB G A adr (sp_half S x z g) X s.heap H locs := gw_B.to hR (by unfold sp_half; repeat (first | rw [if_pos c_12] | rw [if_neg c_12] | rw [if_neg (not_not_intro c_12)] | rw [if_pos c_24] | rw [if_neg c_24] | rw [if_neg (not_not_intro c_24)] | rw [if_pos c_50] | rw [if_neg c_50] | rw [if_neg (not_not_intro c_50)] | rw [if_pos c_56] | rw [if_neg c_56] | rw [if_neg (not_not_intro c_56)] | rw [if_pos c_67] | rw [if_neg c_67] | rw [if_neg (not_not_intro c_67)]))
        refine lv_aload_n hx hb dX7_other_79 rfl (lv_at hl 1 rfl) ?_
        refine lv_iload hx hb dX7_other_80 (lv_at hl 5 rfl) ?_
        refine lv_iload hx hb dX7_other_82 (lv_at hl 6 rfl) ?_
        refine gcVi (As := [.int (nI z), .int (nI g)]) F hK hR hml cv_X7_162 (o := 0) rfl rfl rfl (c_X7_get l G A adr (sp_half S x z g) X z g (by omega) (by omega)) ⟨rfl, rfl⟩ ⟨Nat.le_of_ble_eq_true rfl, Nat.le_of_ble_eq_true rfl⟩ rfl rfl hl.1 (Nat.le_of_ble_eq_true rfl) dX7_other_84 ⟨Nat.zero_le _, Nat.zero_le _⟩ (fun H locs hR => ?_)
        refine lv_istore (lv' := [(7, .int (sp_get (sp_half S x z g) z g)), (6, .int (nI 1)), (0, .ref (adr 0)), (1, .int (nI x)), (2, .int (nI 3)), (3, .int (nI fa)), (4, .int (nI z)), (5, .int (nI g))]) hx hb dX7_other_87 hl (by decide) rfl (fun ls hl => ?_)
        refine lv_iload_n hx hb dX7_other_89 rfl (lv_at hl 4 rfl) ?_
        refine lv_iconst (v := nI 1) hx hb dX7_other_90 (by decide) ?_
        refine nv_icmp_ne (by omega) (by omega) hx hb dX7_other_91 (tgt := 111) (by decide) (fun c_91 => ?_) (fun c_91 => absurd c_91 (by omega))
        refine lv_iload hx hb dX7_other_111 (lv_at hl 0 rfl) ?_
        refine lv_if_ne (tgt := 122) hx hb dX7_other_113 (by decide) (fun c_113 => ?_) (fun c_113 => ?_)
        · refine lv_aload_n hx hb dX7_other_122 rfl (lv_at hl 2 rfl) ?_
          refine lv_iload_n hx hb dX7_other_123 rfl (lv_at hl 3 rfl) ?_
          refine lv_iload_n hx hb dX7_other_124 rfl (lv_at hl 5 rfl) ?_
          refine lv_aload_n hx hb dX7_other_125 rfl (lv_at hl 2 rfl) ?_
          refine lv_iload_n hx hb dX7_other_126 rfl (lv_at hl 3 rfl) ?_
          refine lv_iload_n hx hb dX7_other_127 rfl (lv_at hl 5 rfl) ?_
          refine gcVi (As := [.int (nI x), .int (nI fa)]) F hK hR hml cv_X7_162 (o := 0) rfl rfl rfl (c_X7_get l G A adr (sp_half S x z g) X x fa (by omega) (by omega)) ⟨rfl, rfl⟩ ⟨Nat.le_of_ble_eq_true rfl, Nat.le_of_ble_eq_true rfl⟩ rfl rfl hl.1 (Nat.le_of_ble_eq_true rfl) dX7_other_128 ⟨Nat.zero_le _, Nat.zero_le _⟩ (fun H locs hR => ?_)
          refine lv_iload hx hb dX7_other_131 (lv_at hl 0 rfl) ?_
          refine lv_idiv hx hb dX7_other_133 (c_113) ?_
          refine gcVv (As := [.int (nI x), .int (nI fa), .int ((sp_get (sp_half S x z g) x fa) / (sp_get (sp_half S x z g) z g))]) F hK hR hml cv_X7_156 (o := 0) rfl rfl rfl (c_X7_set l G A adr (sp_half S x z g) X x fa ((sp_get (sp_half S x z g) x fa) / (sp_get (sp_half S x z g) z g)) (by omega) (by omega)) ⟨rfl, rfl⟩ ⟨Nat.le_of_ble_eq_true rfl, Nat.le_of_ble_eq_true rfl⟩ rfl rfl hl.1 (Nat.le_of_ble_eq_true rfl) dX7_other_134 ⟨Nat.zero_le _, Nat.zero_le _⟩ (fun H locs hR => ?_)
          refine lv_iconst (v := (-1)) hx hb dX7_other_137 (by decide) ?_
          exact gr_i F hr hlk hK hR dX7_other_138 (by unfold sp_divR; repeat (first | rw [if_pos c_12] | rw [if_neg c_12] | rw [if_neg (not_not_intro c_12)] | rw [if_pos c_24] | rw [if_neg c_24] | rw [if_neg (not_not_intro c_24)] | rw [if_pos c_50] | rw [if_neg c_50] | rw [if_neg (not_not_intro c_50)] | rw [if_pos c_56] | rw [if_neg c_56] | rw [if_neg (not_not_intro c_56)] | rw [if_pos c_67] | rw [if_neg c_67] | rw [if_neg (not_not_intro c_67)] | rw [if_pos c_91] | rw [if_neg c_91] | rw [if_neg (not_not_intro c_91)] | rw [if_pos c_113] | rw [if_neg c_113] | rw [if_neg (not_not_intro c_113)])) (by unfold sp_divS; repeat (first | rw [if_pos c_12] | rw [if_neg c_12] | rw [if_neg (not_not_intro c_12)] | rw [if_pos c_24] | rw [if_neg c_24] | rw [if_neg (not_not_intro c_24)] | rw [if_pos c_50] | rw [if_neg c_50] | rw [if_neg (not_not_intro c_50)] | rw [if_pos c_56] | rw [if_neg c_56] | rw [if_neg (not_not_intro c_56)] | rw [if_pos c_67] | rw [if_neg c_67] | rw [if_neg (not_not_intro c_67)] | rw [if_pos c_91] | rw [if_neg c_91] | rw [if_neg (not_not_intro c_91)] | rw [if_pos c_113] | rw [if_neg c_113] | rw [if_neg (not_not_intro c_113)]))
        · refine lv_aload_n hx hb dX7_other_116 rfl (lv_at hl 2 rfl) ?_
          refine lv_iconst (v := nI 3) hx hb dX7_other_117 (by decide) ?_
          refine gcVi (As := [.int (nI 3)]) F hK hR hml cv_X7_111 (o := 0) rfl rfl rfl (c_X7_arise l G A adr (sp_half S x z g) X (nI 3)) ⟨rfl, rfl⟩ ⟨Nat.le_of_ble_eq_true rfl, Nat.le_of_ble_eq_true rfl⟩ rfl rfl hl.1 (Nat.le_of_ble_eq_true rfl) dX7_other_118 ⟨Nat.zero_le _, Nat.zero_le _⟩ (fun H locs hR => ?_)
          exact gr_i F hr hlk hK hR dX7_other_121 (by unfold sp_divR; repeat (first | rw [if_pos c_12] | rw [if_neg c_12] | rw [if_neg (not_not_intro c_12)] | rw [if_pos c_24] | rw [if_neg c_24] | rw [if_neg (not_not_intro c_24)] | rw [if_pos c_50] | rw [if_neg c_50] | rw [if_neg (not_not_intro c_50)] | rw [if_pos c_56] | rw [if_neg c_56] | rw [if_neg (not_not_intro c_56)] | rw [if_pos c_67] | rw [if_neg c_67] | rw [if_neg (not_not_intro c_67)] | rw [if_pos c_91] | rw [if_neg c_91] | rw [if_neg (not_not_intro c_91)] | rw [if_pos c_113] | rw [if_neg c_113] | rw [if_neg (not_not_intro c_113)])) (by unfold sp_divS; repeat (first | rw [if_pos c_12] | rw [if_neg c_12] | rw [if_neg (not_not_intro c_12)] | rw [if_pos c_24] | rw [if_neg c_24] | rw [if_neg (not_not_intro c_24)] | rw [if_pos c_50] | rw [if_neg c_50] | rw [if_neg (not_not_intro c_50)] | rw [if_pos c_56] | rw [if_neg c_56] | rw [if_neg (not_not_intro c_56)] | rw [if_pos c_67] | rw [if_neg c_67] | rw [if_neg (not_not_intro c_67)] | rw [if_pos c_91] | rw [if_neg c_91] | rw [if_neg (not_not_intro c_91)] | rw [if_pos c_113] | rw [if_neg c_113] | rw [if_neg (not_not_intro c_113)]))
      · refine lv_iconst (v := nI 1) hx hb dX7_other_70 (by decide) ?_
        refine lv_goto (tgt := 75) hx hb dX7_other_71 (by decide) ?_
        refine lv_iadd hx hb dX7_other_75 ?_
        refine rp_16 F hK hR dX7_other_76 (fun H locs hR => ?_)
        replace hR : rB G A adr (sp_half S x z g) X s.heap H locs := gw_B.to hR (by unfold sp_half; repeat (first | rw [if_pos c_12] | rw [if_neg c_12] | rw [if_neg (not_not_intro c_12)] | rw [if_pos c_24] | rw [if_neg c_24] | rw [if_neg (not_not_intro c_24)] | rw [if_pos c_50] | rw [if_neg c_50] | rw [if_neg (not_not_intro c_50)] | rw [if_pos c_56] | rw [if_neg c_56] | rw [if_neg (not_not_intro c_56)] | rw [if_pos c_67] | rw [if_neg c_67] | rw [if_neg (not_not_intro c_67)]))
        refine lv_aload_n hx hb dX7_other_79 rfl (lv_at hl 1 rfl) ?_
        refine lv_iload hx hb dX7_other_80 (lv_at hl 5 rfl) ?_
        refine lv_iload hx hb dX7_other_82 (lv_at hl 6 rfl) ?_
        refine gcVi (As := [.int (nI z), .int (nI g)]) F hK hR hml cv_X7_162 (o := 0) rfl rfl rfl (c_X7_get l G A adr (sp_half S x z g) X z g (by omega) (by omega)) ⟨rfl, rfl⟩ ⟨Nat.le_of_ble_eq_true rfl, Nat.le_of_ble_eq_true rfl⟩ rfl rfl hl.1 (Nat.le_of_ble_eq_true rfl) dX7_other_84 ⟨Nat.zero_le _, Nat.zero_le _⟩ (fun H locs hR => ?_)
        refine lv_istore (lv' := [(7, .int (sp_get (sp_half S x z g) z g)), (6, .int (nI 1)), (0, .ref (adr 0)), (1, .int (nI x)), (2, .int (nI 3)), (3, .int (nI fa)), (4, .int (nI z)), (5, .int (nI g))]) hx hb dX7_other_87 hl (by decide) rfl (fun ls hl => ?_)
        refine lv_iload_n hx hb dX7_other_89 rfl (lv_at hl 4 rfl) ?_
        refine lv_iconst (v := nI 1) hx hb dX7_other_90 (by decide) ?_
        refine nv_icmp_ne (by omega) (by omega) hx hb dX7_other_91 (tgt := 111) (by decide) (fun c_91 => ?_) (fun c_91 => absurd c_91 (by omega))
        refine lv_iload hx hb dX7_other_111 (lv_at hl 0 rfl) ?_
        refine lv_if_ne (tgt := 122) hx hb dX7_other_113 (by decide) (fun c_113 => ?_) (fun c_113 => ?_)
        · refine lv_aload_n hx hb dX7_other_122 rfl (lv_at hl 2 rfl) ?_
          refine lv_iload_n hx hb dX7_other_123 rfl (lv_at hl 3 rfl) ?_
          refine lv_iload_n hx hb dX7_other_124 rfl (lv_at hl 5 rfl) ?_
          refine lv_aload_n hx hb dX7_other_125 rfl (lv_at hl 2 rfl) ?_
          refine lv_iload_n hx hb dX7_other_126 rfl (lv_at hl 3 rfl) ?_
          refine lv_iload_n hx hb dX7_other_127 rfl (lv_at hl 5 rfl) ?_
          refine gcVi (As := [.int (nI x), .int (nI fa)]) F hK hR hml cv_X7_162 (o := 0) rfl rfl rfl (c_X7_get l G A adr (sp_half S x z g) X x fa (by omega) (by omega)) ⟨rfl, rfl⟩ ⟨Nat.le_of_ble_eq_true rfl, Nat.le_of_ble_eq_true rfl⟩ rfl rfl hl.1 (Nat.le_of_ble_eq_true rfl) dX7_other_128 ⟨Nat.zero_le _, Nat.zero_le _⟩ (fun H locs hR => ?_)
          refine lv_iload hx hb dX7_other_131 (lv_at hl 0 rfl) ?_
          refine lv_idiv hx hb dX7_other_133 (c_113) ?_
          refine gcVv (As := [.int (nI x), .int (nI fa), .int ((sp_get (sp_half S x z g) x fa) / (sp_get (sp_half S x z g) z g))]) F hK hR hml cv_X7_156 (o := 0) rfl rfl rfl (c_X7_set l G A adr (sp_half S x z g) X x fa ((sp_get (sp_half S x z g) x fa) / (sp_get (sp_half S x z g) z g)) (by omega) (by omega)) ⟨rfl, rfl⟩ ⟨Nat.le_of_ble_eq_true rfl, Nat.le_of_ble_eq_true rfl⟩ rfl rfl hl.1 (Nat.le_of_ble_eq_true rfl) dX7_other_134 ⟨Nat.zero_le _, Nat.zero_le _⟩ (fun H locs hR => ?_)
          refine lv_iconst (v := (-1)) hx hb dX7_other_137 (by decide) ?_
          exact gr_i F hr hlk hK hR dX7_other_138 (by unfold sp_divR; repeat (first | rw [if_pos c_12] | rw [if_neg c_12] | rw [if_neg (not_not_intro c_12)] | rw [if_pos c_24] | rw [if_neg c_24] | rw [if_neg (not_not_intro c_24)] | rw [if_pos c_50] | rw [if_neg c_50] | rw [if_neg (not_not_intro c_50)] | rw [if_pos c_56] | rw [if_neg c_56] | rw [if_neg (not_not_intro c_56)] | rw [if_pos c_67] | rw [if_neg c_67] | rw [if_neg (not_not_intro c_67)] | rw [if_pos c_91] | rw [if_neg c_91] | rw [if_neg (not_not_intro c_91)] | rw [if_pos c_113] | rw [if_neg c_113] | rw [if_neg (not_not_intro c_113)])) (by unfold sp_divS; repeat (first | rw [if_pos c_12] | rw [if_neg c_12] | rw [if_neg (not_not_intro c_12)] | rw [if_pos c_24] | rw [if_neg c_24] | rw [if_neg (not_not_intro c_24)] | rw [if_pos c_50] | rw [if_neg c_50] | rw [if_neg (not_not_intro c_50)] | rw [if_pos c_56] | rw [if_neg c_56] | rw [if_neg (not_not_intro c_56)] | rw [if_pos c_67] | rw [if_neg c_67] | rw [if_neg (not_not_intro c_67)] | rw [if_pos c_91] | rw [if_neg c_91] | rw [if_neg (not_not_intro c_91)] | rw [if_pos c_113] | rw [if_neg c_113] | rw [if_neg (not_not_intro c_113)]))
        · refine lv_aload_n hx hb dX7_other_116 rfl (lv_at hl 2 rfl) ?_
          refine lv_iconst (v := nI 3) hx hb dX7_other_117 (by decide) ?_
          refine gcVi (As := [.int (nI 3)]) F hK hR hml cv_X7_111 (o := 0) rfl rfl rfl (c_X7_arise l G A adr (sp_half S x z g) X (nI 3)) ⟨rfl, rfl⟩ ⟨Nat.le_of_ble_eq_true rfl, Nat.le_of_ble_eq_true rfl⟩ rfl rfl hl.1 (Nat.le_of_ble_eq_true rfl) dX7_other_118 ⟨Nat.zero_le _, Nat.zero_le _⟩ (fun H locs hR => ?_)
          exact gr_i F hr hlk hK hR dX7_other_121 (by unfold sp_divR; repeat (first | rw [if_pos c_12] | rw [if_neg c_12] | rw [if_neg (not_not_intro c_12)] | rw [if_pos c_24] | rw [if_neg c_24] | rw [if_neg (not_not_intro c_24)] | rw [if_pos c_50] | rw [if_neg c_50] | rw [if_neg (not_not_intro c_50)] | rw [if_pos c_56] | rw [if_neg c_56] | rw [if_neg (not_not_intro c_56)] | rw [if_pos c_67] | rw [if_neg c_67] | rw [if_neg (not_not_intro c_67)] | rw [if_pos c_91] | rw [if_neg c_91] | rw [if_neg (not_not_intro c_91)] | rw [if_pos c_113] | rw [if_neg c_113] | rw [if_neg (not_not_intro c_113)])) (by unfold sp_divS; repeat (first | rw [if_pos c_12] | rw [if_neg c_12] | rw [if_neg (not_not_intro c_12)] | rw [if_pos c_24] | rw [if_neg c_24] | rw [if_neg (not_not_intro c_24)] | rw [if_pos c_50] | rw [if_neg c_50] | rw [if_neg (not_not_intro c_50)] | rw [if_pos c_56] | rw [if_neg c_56] | rw [if_neg (not_not_intro c_56)] | rw [if_pos c_67] | rw [if_neg c_67] | rw [if_neg (not_not_intro c_67)] | rw [if_pos c_91] | rw [if_neg c_91] | rw [if_neg (not_not_intro c_91)] | rw [if_pos c_113] | rw [if_neg c_113] | rw [if_neg (not_not_intro c_113)]))
set_option maxHeartbeats 4000000 in
set_option maxRecDepth 100000 in
/-- doOne(x, sort, a, b, c) -/
theorem c_X7_doOne (l : Launch) (G : gw_G) (A : Nat → Prop) (adr : Nat → Nat) (S X : Nat → Nat → Int32) (ev x so : Nat) (ra rb rc : Int32) (hev : S 13 0 = nI ev) (he : ev ≤ 60) (hxx : x < 12) (hso : so ≤ 12) (h7 : so ≠ 7) (h11 : so ≠ 11) (hv : ¬ sp_areIn so ra rb rc = 0) (hb3 : 1 ≤ so → so ≤ 3 → ∃ z, z < 12 ∧ rb = nI z) (hrow : ∀ x, x < 12 → ∃ r, r ≤ 21 ∧ S 8 x = nI r) : gm l yX7_doOne cX7_doOne 6 (some .int) (rmL 2) 0 0 A [.ref (adr 0), .int (nI x), .int (nI so), .int ra, .int rb, .int rc] (gW G A adr (rcel G adr S X)) (gW G A adr (rcel G adr (sp_doS S ev x so ra rb rc) X)) (some (.int (sp_doR S x so ra rb rc))) := by
  refine gm_of (own := RX7) (by decide) rfl (Nat.le_of_ble_eq_true rfl) ?_
  intro p e s m below meth c ls F hml hr hlk hnm hK hR hl
  have hx := F.1
  have hb := F.2.1
  have hl : lv_has ls 6 [(0, .ref (adr 0)), (1, .int (nI x)), (2, .int (nI so)), (3, .int ra), (4, .int rb), (5, .int rc)] := hl
  refine lv_iload_n hx hb dX7_doOne_0 rfl (lv_at hl 2 rfl) ?_
  rcases (so_do hso h7 h11 : so = 0 ∨ so = 1 ∨ so = 2 ∨ so = 3 ∨ so = 4 ∨ so = 5 ∨ so = 6 ∨ so = 8 ∨ so = 9 ∨ so = 10 ∨ so = 12) with rfl | rfl | rfl | rfl | rfl | rfl | rfl | rfl | rfl | rfl | rfl
  · refine lv_tableIn (x := nI 0) (tgt := 60) hx hb dX7_doOne_1 (by decide) (by decide) (off := 59) (by decide) (by decide) ?_
    obtain ⟨fa, h_fa, rfl⟩ := isF_yes hv
    refine lv_aload_n hx hb dX7_doOne_60 rfl (lv_at hl 0 rfl) ?_
    refine lv_iload_n hx hb dX7_doOne_61 rfl (lv_at hl 1 rfl) ?_
    refine lv_iload_n hx hb dX7_doOne_62 rfl (lv_at hl 3 rfl) ?_
    refine lv_iload hx hb dX7_doOne_63 (lv_at hl 4 rfl) ?_
    refine gcVv (As := [.int (nI x), .int (nI fa), .int rb]) F hK hR hml cv_X7_156 (o := 0) rfl rfl rfl (c_X7_set l G A adr S X x fa rb (by omega) (by omega)) ⟨rfl, rfl⟩ ⟨Nat.le_of_ble_eq_true rfl, Nat.le_of_ble_eq_true rfl⟩ rfl rfl hl.1 (Nat.le_of_ble_eq_true rfl) dX7_doOne_65 ⟨Nat.zero_le _, Nat.zero_le _⟩ (fun H locs hR => ?_)
    refine lv_iconst (v := (-1)) hx hb dX7_doOne_68 (by decide) ?_
    exact gr_i F hr hlk hK hR dX7_doOne_69 (rfl) (by simp only [sp_doS]; rw [nI_clamp (n := fa) (by omega)])
  · refine lv_tableIn (x := nI 1) (tgt := 70) hx hb dX7_doOne_1 (by decide) (by decide) (off := 69) (by decide) (by decide) ?_
    have hF1 : ¬ sp_isF ra = 0 := fun q => hv (by simp only [sp_areIn]; rw [if_pos q]; rfl)
    have hF2 : ¬ sp_isF rc = 0 := fun q => hv (by simp only [sp_areIn]; rw [if_neg hF1, if_pos q]; rfl)
    obtain ⟨fa, h_fa, rfl⟩ := isF_yes hF1
    obtain ⟨g, h_g, rfl⟩ := isF_yes hF2
    obtain ⟨z, h_z, rfl⟩ := hb3 (by omega) (by omega)
    refine lv_aload_n hx hb dX7_doOne_70 rfl (lv_at hl 0 rfl) ?_
    refine lv_iload_n hx hb dX7_doOne_71 rfl (lv_at hl 1 rfl) ?_
    refine lv_iload_n hx hb dX7_doOne_72 rfl (lv_at hl 2 rfl) ?_
    refine lv_iload_n hx hb dX7_doOne_73 rfl (lv_at hl 3 rfl) ?_
    refine lv_iload hx hb dX7_doOne_74 (lv_at hl 4 rfl) ?_
    refine lv_iload hx hb dX7_doOne_76 (lv_at hl 5 rfl) ?_
    refine gcVi (As := [.int (nI x), .int (nI 1), .int (nI fa), .int (nI z), .int (nI g)]) F hK hR hml cv_X7_159 (o := 0) rfl rfl rfl (c_X7_other1 l G A adr S X x fa z g (by omega) (by omega) (by omega) (by omega)) ⟨rfl, rfl⟩ ⟨Nat.le_of_ble_eq_true rfl, Nat.le_of_ble_eq_true rfl⟩ rfl rfl hl.1 (Nat.le_of_ble_eq_true rfl) dX7_doOne_78 ⟨Nat.zero_le _, Nat.zero_le _⟩ (fun H locs hR => ?_)
    exact gr_i F hr hlk hK hR dX7_doOne_81 (rfl) (by simp only [sp_doS]; rw [nI_clamp (n := fa) (by omega), nI_clamp (n := z) (by omega), nI_clamp (n := g) (by omega)])
  · refine lv_tableIn (x := nI 2) (tgt := 70) hx hb dX7_doOne_1 (by decide) (by decide) (off := 69) (by decide) (by decide) ?_
    have hF1 : ¬ sp_isF ra = 0 := fun q => hv (by simp only [sp_areIn]; rw [if_pos q]; rfl)
    have hF2 : ¬ sp_isF rc = 0 := fun q => hv (by simp only [sp_areIn]; rw [if_neg hF1, if_pos q]; rfl)
    obtain ⟨fa, h_fa, rfl⟩ := isF_yes hF1
    obtain ⟨g, h_g, rfl⟩ := isF_yes hF2
    obtain ⟨z, h_z, rfl⟩ := hb3 (by omega) (by omega)
    refine lv_aload_n hx hb dX7_doOne_70 rfl (lv_at hl 0 rfl) ?_
    refine lv_iload_n hx hb dX7_doOne_71 rfl (lv_at hl 1 rfl) ?_
    refine lv_iload_n hx hb dX7_doOne_72 rfl (lv_at hl 2 rfl) ?_
    refine lv_iload_n hx hb dX7_doOne_73 rfl (lv_at hl 3 rfl) ?_
    refine lv_iload hx hb dX7_doOne_74 (lv_at hl 4 rfl) ?_
    refine lv_iload hx hb dX7_doOne_76 (lv_at hl 5 rfl) ?_
    refine gcVi (As := [.int (nI x), .int (nI 2), .int (nI fa), .int (nI z), .int (nI g)]) F hK hR hml cv_X7_159 (o := 0) rfl rfl rfl (c_X7_other2 l G A adr S X x fa z g (by omega) (by omega) (by omega) (by omega)) ⟨rfl, rfl⟩ ⟨Nat.le_of_ble_eq_true rfl, Nat.le_of_ble_eq_true rfl⟩ rfl rfl hl.1 (Nat.le_of_ble_eq_true rfl) dX7_doOne_78 ⟨Nat.zero_le _, Nat.zero_le _⟩ (fun H locs hR => ?_)
    exact gr_i F hr hlk hK hR dX7_doOne_81 (rfl) (by simp only [sp_doS]; rw [nI_clamp (n := fa) (by omega), nI_clamp (n := z) (by omega), nI_clamp (n := g) (by omega)])
  · refine lv_tableIn (x := nI 3) (tgt := 70) hx hb dX7_doOne_1 (by decide) (by decide) (off := 69) (by decide) (by decide) ?_
    have hF1 : ¬ sp_isF ra = 0 := fun q => hv (by simp only [sp_areIn]; rw [if_pos q]; rfl)
    have hF2 : ¬ sp_isF rc = 0 := fun q => hv (by simp only [sp_areIn]; rw [if_neg hF1, if_pos q]; rfl)
    obtain ⟨fa, h_fa, rfl⟩ := isF_yes hF1
    obtain ⟨g, h_g, rfl⟩ := isF_yes hF2
    obtain ⟨z, h_z, rfl⟩ := hb3 (by omega) (by omega)
    refine lv_aload_n hx hb dX7_doOne_70 rfl (lv_at hl 0 rfl) ?_
    refine lv_iload_n hx hb dX7_doOne_71 rfl (lv_at hl 1 rfl) ?_
    refine lv_iload_n hx hb dX7_doOne_72 rfl (lv_at hl 2 rfl) ?_
    refine lv_iload_n hx hb dX7_doOne_73 rfl (lv_at hl 3 rfl) ?_
    refine lv_iload hx hb dX7_doOne_74 (lv_at hl 4 rfl) ?_
    refine lv_iload hx hb dX7_doOne_76 (lv_at hl 5 rfl) ?_
    refine gcVi (As := [.int (nI x), .int (nI 3), .int (nI fa), .int (nI z), .int (nI g)]) F hK hR hml cv_X7_159 (o := 0) rfl rfl rfl (c_X7_other3 l G A adr S X x fa z g (by omega) (by omega) (by omega) (by omega)) ⟨rfl, rfl⟩ ⟨Nat.le_of_ble_eq_true rfl, Nat.le_of_ble_eq_true rfl⟩ rfl rfl hl.1 (Nat.le_of_ble_eq_true rfl) dX7_doOne_78 ⟨Nat.zero_le _, Nat.zero_le _⟩ (fun H locs hR => ?_)
    exact gr_i F hr hlk hK hR dX7_doOne_81 (by simp only [sp_doR]; rw [nI_clamp (n := z) (by omega), nI_clamp (n := g) (by omega)]) (by simp only [sp_doS]; rw [nI_clamp (n := fa) (by omega), nI_clamp (n := z) (by omega), nI_clamp (n := g) (by omega)])
  · refine lv_tableIn (x := nI 4) (tgt := 82) hx hb dX7_doOne_1 (by decide) (by decide) (off := 81) (by decide) (by decide) ?_
    obtain ⟨fa, h_fa, rfl⟩ := isF_yes hv
    refine lv_aload_n hx hb dX7_doOne_82 rfl (lv_at hl 0 rfl) ?_
    refine lv_iload_n hx hb dX7_doOne_83 rfl (lv_at hl 1 rfl) ?_
    refine lv_aload_n hx hb dX7_doOne_84 rfl (lv_at hl 0 rfl) ?_
    refine lv_iload_n hx hb dX7_doOne_85 rfl (lv_at hl 1 rfl) ?_
    refine lv_iload_n hx hb dX7_doOne_86 rfl (lv_at hl 3 rfl) ?_
    refine gcVi (As := [.int (nI x), .int (nI fa)]) F hK hR hml cv_X7_162 (o := 0) rfl rfl rfl (c_X7_get l G A adr S X x fa (by omega) (by omega)) ⟨rfl, rfl⟩ ⟨Nat.le_of_ble_eq_true rfl, Nat.le_of_ble_eq_true rfl⟩ rfl rfl hl.1 (Nat.le_of_ble_eq_true rfl) dX7_doOne_87 ⟨Nat.zero_le _, Nat.zero_le _⟩ (fun H locs hR => ?_)
    refine gcVi (As := [.int (nI x), .int (sp_get S x fa)]) F hK hR hml cv_X7_166 (o := 0) rfl rfl rfl (c_X7_newRow l G A adr S X x (sp_get S x fa) (by omega)) ⟨rfl, rfl⟩ ⟨Nat.le_of_ble_eq_true rfl, Nat.le_of_ble_eq_true rfl⟩ rfl rfl hl.1 (Nat.le_of_ble_eq_true rfl) dX7_doOne_90 ⟨Nat.zero_le _, Nat.zero_le _⟩ (fun H locs hR => ?_)
    exact gr_i F hr hlk hK hR dX7_doOne_93 (by simp only [sp_doR]; rw [nI_clamp (n := fa) (by omega)]) (by simp only [sp_doS]; rw [nI_clamp (n := fa) (by omega)])
  · refine lv_tableIn (x := nI 5) (tgt := 94) hx hb dX7_doOne_1 (by decide) (by decide) (off := 93) (by decide) (by decide) ?_
    have hF1 : ¬ sp_isF ra = 0 := fun q => hv (by simp only [sp_areIn]; rw [if_pos q]; rfl)
    have hF2 : ¬ sp_isF rb = 0 := fun q => hv (by simp only [sp_areIn]; rw [if_neg hF1, if_pos q]; rfl)
    obtain ⟨fa, h_fa, rfl⟩ := isF_yes hF1
    obtain ⟨fb, h_fb, rfl⟩ := isF_yes hF2
    refine lv_aload_n hx hb dX7_doOne_94 rfl (lv_at hl 0 rfl) ?_
    refine lv_iload_n hx hb dX7_doOne_95 rfl (lv_at hl 1 rfl) ?_
    refine lv_iload_n hx hb dX7_doOne_96 rfl (lv_at hl 2 rfl) ?_
    refine lv_iconst (v := nI 5) hx hb dX7_doOne_97 (by decide) ?_
    refine nv_icmp_ne (by omega) (by omega) hx hb dX7_doOne_98 (tgt := 105) (by decide) (fun c_98 => absurd c_98 (by omega)) (fun c_98 => ?_)
    refine lv_iconst (v := nI 1) hx hb dX7_doOne_101 (by decide) ?_
    refine lv_goto (tgt := 106) hx hb dX7_doOne_102 (by decide) ?_
    refine lv_iload_n hx hb dX7_doOne_106 rfl (lv_at hl 3 rfl) ?_
    refine lv_iload hx hb dX7_doOne_107 (lv_at hl 4 rfl) ?_
    refine gcVi (As := [.int (nI x), .int (nI 1), .int (nI fa), .int (nI fb)]) F hK hR hml cv_X7_169 (o := 0) rfl rfl rfl (c_X7_inOut1 l G A adr S X x fa fb (by omega) (by omega) (by omega) hrow) ⟨rfl, rfl⟩ ⟨Nat.le_of_ble_eq_true rfl, Nat.le_of_ble_eq_true rfl⟩ rfl rfl hl.1 (Nat.le_of_ble_eq_true rfl) dX7_doOne_109 ⟨Nat.zero_le _, Nat.zero_le _⟩ (fun H locs hR => ?_)
    exact gr_i F hr hlk hK hR dX7_doOne_112 (by simp only [sp_doR]; rw [nI_clamp (n := fa) (by omega)]) (by simp only [sp_doS]; rw [nI_clamp (n := fa) (by omega), nI_clamp (n := fb) (by omega)])
  · refine lv_tableIn (x := nI 6) (tgt := 94) hx hb dX7_doOne_1 (by decide) (by decide) (off := 93) (by decide) (by decide) ?_
    have hF1 : ¬ sp_isF ra = 0 := fun q => hv (by simp only [sp_areIn]; rw [if_pos q]; rfl)
    have hF2 : ¬ sp_isF rb = 0 := fun q => hv (by simp only [sp_areIn]; rw [if_neg hF1, if_pos q]; rfl)
    obtain ⟨fa, h_fa, rfl⟩ := isF_yes hF1
    obtain ⟨fb, h_fb, rfl⟩ := isF_yes hF2
    refine lv_aload_n hx hb dX7_doOne_94 rfl (lv_at hl 0 rfl) ?_
    refine lv_iload_n hx hb dX7_doOne_95 rfl (lv_at hl 1 rfl) ?_
    refine lv_iload_n hx hb dX7_doOne_96 rfl (lv_at hl 2 rfl) ?_
    refine lv_iconst (v := nI 5) hx hb dX7_doOne_97 (by decide) ?_
    refine nv_icmp_ne (by omega) (by omega) hx hb dX7_doOne_98 (tgt := 105) (by decide) (fun c_98 => ?_) (fun c_98 => absurd c_98 (by omega))
    refine lv_iconst (v := nI 0) hx hb dX7_doOne_105 (by decide) ?_
    refine lv_iload_n hx hb dX7_doOne_106 rfl (lv_at hl 3 rfl) ?_
    refine lv_iload hx hb dX7_doOne_107 (lv_at hl 4 rfl) ?_
    refine gcVi (As := [.int (nI x), .int (nI 0), .int (nI fa), .int (nI fb)]) F hK hR hml cv_X7_169 (o := 0) rfl rfl rfl (c_X7_inOut0 l G A adr S X x fa fb (by omega) (by omega) (by omega) hrow) ⟨rfl, rfl⟩ ⟨Nat.le_of_ble_eq_true rfl, Nat.le_of_ble_eq_true rfl⟩ rfl rfl hl.1 (Nat.le_of_ble_eq_true rfl) dX7_doOne_109 ⟨Nat.zero_le _, Nat.zero_le _⟩ (fun H locs hR => ?_)
    exact gr_i F hr hlk hK hR dX7_doOne_112 (by simp only [sp_doR]; rw [nI_clamp (n := fb) (by omega)]) (by simp only [sp_doS]; rw [nI_clamp (n := fa) (by omega), nI_clamp (n := fb) (by omega)])
  · refine lv_tableIn (x := nI 8) (tgt := 113) hx hb dX7_doOne_1 (by decide) (by decide) (off := 112) (by decide) (by decide) ?_
    refine lv_iconst (v := (-1)) hx hb dX7_doOne_113 (by decide) ?_
    exact gr_i F hr hlk hK hR dX7_doOne_114 (rfl) (rfl)
  · refine lv_tableIn (x := nI 9) (tgt := 115) hx hb dX7_doOne_1 (by decide) (by decide) (off := 114) (by decide) (by decide) ?_
    refine lv_aload_n hx hb dX7_doOne_115 rfl (lv_at hl 0 rfl) ?_
    refine lv_iload_n hx hb dX7_doOne_116 rfl (lv_at hl 3 rfl) ?_
    refine gcVi (As := [.int ra]) F hK hR hml cv_X7_111 (o := 0) rfl rfl rfl (c_X7_arise l G A adr S X ra) ⟨rfl, rfl⟩ ⟨Nat.le_of_ble_eq_true rfl, Nat.le_of_ble_eq_true rfl⟩ rfl rfl hl.1 (Nat.le_of_ble_eq_true rfl) dX7_doOne_117 ⟨Nat.zero_le _, Nat.zero_le _⟩ (fun H locs hR => ?_)
    exact gr_i F hr hlk hK hR dX7_doOne_120 (rfl) (rfl)
  · refine lv_tableIn (x := nI 10) (tgt := 121) hx hb dX7_doOne_1 (by decide) (by decide) (off := 120) (by decide) (by decide) ?_
    refine lv_aload_n hx hb dX7_doOne_121 rfl (lv_at hl 0 rfl) ?_
    refine lv_iconst (v := nI 3) hx hb dX7_doOne_122 (by decide) ?_
    refine lv_iload_n hx hb dX7_doOne_123 rfl (lv_at hl 3 rfl) ?_
    refine gcVv (As := [.int (nI 3), .int ra]) F hK hR hml cv_X7_118 (o := 0) rfl rfl rfl (c_X7_tell l G A adr S X ev (nI 3) ra (hev) (by omega)) ⟨rfl, rfl⟩ ⟨Nat.le_of_ble_eq_true rfl, Nat.le_of_ble_eq_true rfl⟩ rfl rfl hl.1 (Nat.le_of_ble_eq_true rfl) dX7_doOne_124 ⟨Nat.zero_le _, Nat.zero_le _⟩ (fun H locs hR => ?_)
    refine lv_iconst (v := (-1)) hx hb dX7_doOne_127 (by decide) ?_
    exact gr_i F hr hlk hK hR dX7_doOne_128 (rfl) (rfl)
  · refine lv_tableOut (x := nI 12) (tgt := 129) hx hb dX7_doOne_1 (by decide) (by decide) ?_
    refine lv_aload_n hx hb dX7_doOne_129 rfl (lv_at hl 0 rfl) ?_
    refine rg_8 F hK hR dX7_doOne_130 ?_
    refine lv_iload_n hx hb dX7_doOne_133 rfl (lv_at hl 1 rfl) ?_
    refine lv_iconst (v := nI 0) hx hb dX7_doOne_134 (by decide) ?_
    refine rs_8 F hK hR (by omega) dX7_doOne_135 (fun H locs hR => ?_)
    refine lv_iconst (v := (-1)) hx hb dX7_doOne_136 (by decide) ?_
    exact gr_i F hr hlk hK hR dX7_doOne_137 (rfl) (rfl)
set_option maxHeartbeats 4000000 in
set_option maxRecDepth 100000 in
/-- again() -/
theorem c_X7_again (l : Launch) (G : gw_G) (A : Nat → Prop) (adr : Nat → Nat) (S X : Nat → Nat → Int32) (n : Nat) (hn0 : S 0 0 = nI n) (hn : n ≤ 12) : gm l yX7_again cX7_again 4 (some .int) (rmL 1) 0 0 A [.ref (adr 0)] (gW G A adr (rcel G adr S X)) (gW G A adr (rcel G adr (sp_agS S n) X)) (some (.int (sp_agN S n))) := by
  refine gm_of (own := RX7) (by decide) rfl (Nat.le_of_ble_eq_true rfl) ?_
  intro p e s m below meth c ls F hml hr hlk hnm hK hR hl
  have hx := F.1
  have hb := F.2.1
  have hl : lv_has ls 4 [(0, .ref (adr 0))] := hl
  refine lv_iconst (v := nI 0) hx hb dX7_again_0 (by decide) ?_
  refine lv_istore_n (lv' := [(1, .int (nI 0)), (0, .ref (adr 0))]) hx hb dX7_again_1 rfl hl (by decide) rfl (fun ls hl => ?_)
  refine lv_iconst (v := nI 0) hx hb dX7_again_2 (by decide) ?_
  refine lv_istore_n (lv' := [(2, .int (nI 0)), (1, .int (nI 0)), (0, .ref (adr 0))]) hx hb dX7_again_3 rfl hl (by decide) rfl (fun ls hl => ?_)
  refine lp_gen hR (fun H locs hR => ?_)
  obtain ⟨k, hk⟩ : ∃ k, k = 0 := ⟨_, rfl⟩
  replace hl : lv_has ls 4 [(2, .int (nI k)), (1, .int (sp_agN S k)), (0, .ref (adr 0))] := by rw [hk]; exact lv_sub hl [0, 1, 2] rfl
  replace hR : rB G A adr (sp_agS S k) X s.heap H locs := by rw [hk]; exact hR
  have hkf : k ≤ n := by omega
  clear hk
  generalize hd : n - k = d
  induction d generalizing k ls H locs with
  | zero =>
    refine lv_iload_n hx hb dX7_again_4 rfl (lv_at hl 0 rfl) ?_
    refine lv_aload_n hx hb dX7_again_5 rfl (lv_at hl 2 rfl) ?_
    refine rg_0 F hK hR dX7_again_6 ?_
    refine lv_eq ((congrFun (sp_agS_ne (k := k) (by decide) (by decide) (by decide)) 0).trans hn0) ?_
    refine nv_icmp_ge (by omega) (by omega) hx hb dX7_again_9 (tgt := 69) (by decide) (fun c_9 => ?_) (fun c_9 => absurd c_9 (by omega))
    have hkk : k = n := by omega
    refine lv_iload_n hx hb dX7_again_69 rfl (lv_at hl 1 rfl) ?_
    exact gr_i F hr hlk hK hR dX7_again_70 (by rw [hkk]) (by rw [hkk])
  | succ d ih =>
    refine lv_iload_n hx hb dX7_again_4 rfl (lv_at hl 0 rfl) ?_
    refine lv_aload_n hx hb dX7_again_5 rfl (lv_at hl 2 rfl) ?_
    refine rg_0 F hK hR dX7_again_6 ?_
    refine lv_eq ((congrFun (sp_agS_ne (k := k) (by decide) (by decide) (by decide)) 0).trans hn0) ?_
    refine nv_icmp_ge (by omega) (by omega) hx hb dX7_again_9 (tgt := 69) (by decide) (fun c_9 => absurd c_9 (by omega)) (fun c_9 => ?_)
    refine lv_iload_n hx hb dX7_again_12 rfl (lv_at hl 1 rfl) ?_
    refine lv_aload_n hx hb dX7_again_13 rfl (lv_at hl 2 rfl) ?_
    refine rg_12 F hK hR dX7_again_14 ?_
    refine lv_iload_n hx hb dX7_again_17 rfl (lv_at hl 0 rfl) ?_
    refine ri_12 F hK hR (by omega) dX7_again_18 ?_
    refine lv_if_eq (tgt := 26) hx hb dX7_again_19 (by decide) (fun c_19 => ?_) (fun c_19 => ?_)
    · refine lv_iconst (v := nI 0) hx hb dX7_again_26 (by decide) ?_
      refine lv_iadd hx hb dX7_again_27 ?_
      refine lv_istore_n (lv' := [(1, .int ((sp_agN S k) + (nI 0))), (2, .int (nI k)), (0, .ref (adr 0))]) hx hb dX7_again_28 rfl hl (by decide) rfl (fun ls hl => ?_)
      refine lv_aload_n hx hb dX7_again_29 rfl (lv_at hl 2 rfl) ?_
      refine rg_12 F hK hR dX7_again_30 ?_
      refine lv_iload_n hx hb dX7_again_33 rfl (lv_at hl 1 rfl) ?_
      refine lv_iconst (v := nI 0) hx hb dX7_again_34 (by decide) ?_
      refine rs_12 F hK hR (by omega) dX7_again_35 (fun H locs hR => ?_)
      refine lv_aload_n hx hb dX7_again_36 rfl (lv_at hl 2 rfl) ?_
      refine rg_8 F hK hR dX7_again_37 ?_
      refine lv_iload_n hx hb dX7_again_40 rfl (lv_at hl 1 rfl) ?_
      refine lv_iconst (v := nI 0) hx hb dX7_again_41 (by decide) ?_
      refine rs_8 F hK hR (by omega) dX7_again_42 (fun H locs hR => ?_)
      refine lv_iconst (v := nI 0) hx hb dX7_again_43 (by decide) ?_
      refine lv_istore_n (lv' := [(3, .int (nI 0)), (1, .int ((sp_agN S k) + (nI 0))), (2, .int (nI k)), (0, .ref (adr 0))]) hx hb dX7_again_44 rfl hl (by decide) rfl (fun ls hl => ?_)
      refine lv_iload_n hx hb dX7_again_45 rfl (lv_at hl 0 rfl) ?_
      refine lv_iconst (v := nI 4) hx hb dX7_again_46 (by decide) ?_
      refine nv_icmp_ge (by omega) (by omega) hx hb dX7_again_47 (tgt := 63) (by decide) (fun c_47 => absurd c_47 (by omega)) (fun c_47 => ?_)
      refine lv_aload_n hx hb dX7_again_50 rfl (lv_at hl 3 rfl) ?_
      refine lv_iload_n hx hb dX7_again_51 rfl (lv_at hl 2 rfl) ?_
      refine lv_iload_n hx hb dX7_again_52 rfl (lv_at hl 0 rfl) ?_
      refine lv_iconst (v := nI 0) hx hb dX7_again_53 (by decide) ?_
      refine gcVv (As := [.int (nI k), .int (nI 0), .int (nI 0)]) F hK hR hml cv_X7_156 (o := 0) rfl rfl rfl (c_X7_set l G A adr (m2 (m2 (sp_agS S k) 12 k (nI 0)) 8 k (nI 0)) X k 0 (nI 0) (by omega) (by omega)) ⟨rfl, rfl⟩ ⟨Nat.le_of_ble_eq_true rfl, Nat.le_of_ble_eq_true rfl⟩ rfl rfl hl.1 (Nat.le_of_ble_eq_true rfl) dX7_again_54 ⟨Nat.zero_le _, Nat.zero_le _⟩ (fun H locs hR => ?_)
      refine lv_iinc (v := nI 1) (lv' := [(3, .int (nI 1)), (1, .int ((sp_agN S k) + (nI 0))), (2, .int (nI k)), (0, .ref (adr 0))]) hx hb dX7_again_57 hl (k := 0) rfl (nI_add _ _) (by decide) rfl (fun ls hl => ?_)
      refine lv_goto (tgt := 45) hx hb dX7_again_60 (by decide) ?_
      refine lv_iload_n hx hb dX7_again_45 rfl (lv_at hl 0 rfl) ?_
      refine lv_iconst (v := nI 4) hx hb dX7_again_46 (by decide) ?_
      refine nv_icmp_ge (by omega) (by omega) hx hb dX7_again_47 (tgt := 63) (by decide) (fun c_47 => absurd c_47 (by omega)) (fun c_47 => ?_)
      refine lv_aload_n hx hb dX7_again_50 rfl (lv_at hl 3 rfl) ?_
      refine lv_iload_n hx hb dX7_again_51 rfl (lv_at hl 2 rfl) ?_
      refine lv_iload_n hx hb dX7_again_52 rfl (lv_at hl 0 rfl) ?_
      refine lv_iconst (v := nI 0) hx hb dX7_again_53 (by decide) ?_
      refine gcVv (As := [.int (nI k), .int (nI 1), .int (nI 0)]) F hK hR hml cv_X7_156 (o := 0) rfl rfl rfl (c_X7_set l G A adr (sp_set (m2 (m2 (sp_agS S k) 12 k (nI 0)) 8 k (nI 0)) k 0 (nI 0)) X k 1 (nI 0) (by omega) (by omega)) ⟨rfl, rfl⟩ ⟨Nat.le_of_ble_eq_true rfl, Nat.le_of_ble_eq_true rfl⟩ rfl rfl hl.1 (Nat.le_of_ble_eq_true rfl) dX7_again_54 ⟨Nat.zero_le _, Nat.zero_le _⟩ (fun H locs hR => ?_)
      refine lv_iinc (v := nI 2) (lv' := [(3, .int (nI 2)), (1, .int ((sp_agN S k) + (nI 0))), (2, .int (nI k)), (0, .ref (adr 0))]) hx hb dX7_again_57 hl (k := 0) rfl (nI_add _ _) (by decide) rfl (fun ls hl => ?_)
      refine lv_goto (tgt := 45) hx hb dX7_again_60 (by decide) ?_
      refine lv_iload_n hx hb dX7_again_45 rfl (lv_at hl 0 rfl) ?_
      refine lv_iconst (v := nI 4) hx hb dX7_again_46 (by decide) ?_
      refine nv_icmp_ge (by omega) (by omega) hx hb dX7_again_47 (tgt := 63) (by decide) (fun c_47 => absurd c_47 (by omega)) (fun c_47 => ?_)
      refine lv_aload_n hx hb dX7_again_50 rfl (lv_at hl 3 rfl) ?_
      refine lv_iload_n hx hb dX7_again_51 rfl (lv_at hl 2 rfl) ?_
      refine lv_iload_n hx hb dX7_again_52 rfl (lv_at hl 0 rfl) ?_
      refine lv_iconst (v := nI 0) hx hb dX7_again_53 (by decide) ?_
      refine gcVv (As := [.int (nI k), .int (nI 2), .int (nI 0)]) F hK hR hml cv_X7_156 (o := 0) rfl rfl rfl (c_X7_set l G A adr (sp_set (sp_set (m2 (m2 (sp_agS S k) 12 k (nI 0)) 8 k (nI 0)) k 0 (nI 0)) k 1 (nI 0)) X k 2 (nI 0) (by omega) (by omega)) ⟨rfl, rfl⟩ ⟨Nat.le_of_ble_eq_true rfl, Nat.le_of_ble_eq_true rfl⟩ rfl rfl hl.1 (Nat.le_of_ble_eq_true rfl) dX7_again_54 ⟨Nat.zero_le _, Nat.zero_le _⟩ (fun H locs hR => ?_)
      refine lv_iinc (v := nI 3) (lv' := [(3, .int (nI 3)), (1, .int ((sp_agN S k) + (nI 0))), (2, .int (nI k)), (0, .ref (adr 0))]) hx hb dX7_again_57 hl (k := 0) rfl (nI_add _ _) (by decide) rfl (fun ls hl => ?_)
      refine lv_goto (tgt := 45) hx hb dX7_again_60 (by decide) ?_
      refine lv_iload_n hx hb dX7_again_45 rfl (lv_at hl 0 rfl) ?_
      refine lv_iconst (v := nI 4) hx hb dX7_again_46 (by decide) ?_
      refine nv_icmp_ge (by omega) (by omega) hx hb dX7_again_47 (tgt := 63) (by decide) (fun c_47 => absurd c_47 (by omega)) (fun c_47 => ?_)
      refine lv_aload_n hx hb dX7_again_50 rfl (lv_at hl 3 rfl) ?_
      refine lv_iload_n hx hb dX7_again_51 rfl (lv_at hl 2 rfl) ?_
      refine lv_iload_n hx hb dX7_again_52 rfl (lv_at hl 0 rfl) ?_
      refine lv_iconst (v := nI 0) hx hb dX7_again_53 (by decide) ?_
      refine gcVv (As := [.int (nI k), .int (nI 3), .int (nI 0)]) F hK hR hml cv_X7_156 (o := 0) rfl rfl rfl (c_X7_set l G A adr (sp_set (sp_set (sp_set (m2 (m2 (sp_agS S k) 12 k (nI 0)) 8 k (nI 0)) k 0 (nI 0)) k 1 (nI 0)) k 2 (nI 0)) X k 3 (nI 0) (by omega) (by omega)) ⟨rfl, rfl⟩ ⟨Nat.le_of_ble_eq_true rfl, Nat.le_of_ble_eq_true rfl⟩ rfl rfl hl.1 (Nat.le_of_ble_eq_true rfl) dX7_again_54 ⟨Nat.zero_le _, Nat.zero_le _⟩ (fun H locs hR => ?_)
      refine lv_iinc (v := nI 4) (lv' := [(3, .int (nI 4)), (1, .int ((sp_agN S k) + (nI 0))), (2, .int (nI k)), (0, .ref (adr 0))]) hx hb dX7_again_57 hl (k := 0) rfl (nI_add _ _) (by decide) rfl (fun ls hl => ?_)
      refine lv_goto (tgt := 45) hx hb dX7_again_60 (by decide) ?_
      refine lv_iload_n hx hb dX7_again_45 rfl (lv_at hl 0 rfl) ?_
      refine lv_iconst (v := nI 4) hx hb dX7_again_46 (by decide) ?_
      refine nv_icmp_ge (by omega) (by omega) hx hb dX7_again_47 (tgt := 63) (by decide) (fun c_47 => ?_) (fun c_47 => absurd c_47 (by omega))
      refine lv_iinc (v := nI (k + 1)) (lv' := [(2, .int (nI (k + 1))), (3, .int (nI 4)), (1, .int ((sp_agN S k) + (nI 0))), (0, .ref (adr 0))]) hx hb dX7_again_63 hl (k := 2) rfl (nI_add _ _) (by decide) rfl (fun ls hl => ?_)
      refine lv_goto (tgt := 4) hx hb dX7_again_66 (by decide) ?_
      have q : (sp_agN S k) + (nI 0) = sp_agN S (k + 1) := by rw [sp_agN]; repeat (first | rw [if_pos c_9] | rw [if_neg c_9] | rw [if_neg (not_not_intro c_9)] | rw [if_pos c_19] | rw [if_neg c_19] | rw [if_neg (not_not_intro c_19)] | rw [if_pos c_47] | rw [if_neg c_47] | rw [if_neg (not_not_intro c_47)] | rw [if_pos c_47] | rw [if_neg c_47] | rw [if_neg (not_not_intro c_47)] | rw [if_pos c_47] | rw [if_neg c_47] | rw [if_neg (not_not_intro c_47)] | rw [if_pos c_47] | rw [if_neg c_47] | rw [if_neg (not_not_intro c_47)] | rw [if_pos c_47] | rw [if_neg c_47] | rw [if_neg (not_not_intro c_47)])
      have hl2 : lv_has ls 4 [(2, .int (nI (k + 1))), (1, .int (sp_agN S (k + 1))), (0, .ref (adr 0))] := by rw [← q]; exact lv_sub hl [0, 2, 3] rfl
      exact ih _ _ _ _ hl2 hR (by omega) (by omega)
    · refine lv_iconst (v := nI 1) hx hb dX7_again_22 (by decide) ?_
      refine lv_goto (tgt := 27) hx hb dX7_again_23 (by decide) ?_
      refine lv_iadd hx hb dX7_again_27 ?_
      refine lv_istore_n (lv' := [(1, .int ((sp_agN S k) + (nI 1))), (2, .int (nI k)), (0, .ref (adr 0))]) hx hb dX7_again_28 rfl hl (by decide) rfl (fun ls hl => ?_)
      refine lv_aload_n hx hb dX7_again_29 rfl (lv_at hl 2 rfl) ?_
      refine rg_12 F hK hR dX7_again_30 ?_
      refine lv_iload_n hx hb dX7_again_33 rfl (lv_at hl 1 rfl) ?_
      refine lv_iconst (v := nI 0) hx hb dX7_again_34 (by decide) ?_
      refine rs_12 F hK hR (by omega) dX7_again_35 (fun H locs hR => ?_)
      refine lv_aload_n hx hb dX7_again_36 rfl (lv_at hl 2 rfl) ?_
      refine rg_8 F hK hR dX7_again_37 ?_
      refine lv_iload_n hx hb dX7_again_40 rfl (lv_at hl 1 rfl) ?_
      refine lv_iconst (v := nI 0) hx hb dX7_again_41 (by decide) ?_
      refine rs_8 F hK hR (by omega) dX7_again_42 (fun H locs hR => ?_)
      refine lv_iconst (v := nI 0) hx hb dX7_again_43 (by decide) ?_
      refine lv_istore_n (lv' := [(3, .int (nI 0)), (1, .int ((sp_agN S k) + (nI 1))), (2, .int (nI k)), (0, .ref (adr 0))]) hx hb dX7_again_44 rfl hl (by decide) rfl (fun ls hl => ?_)
      refine lv_iload_n hx hb dX7_again_45 rfl (lv_at hl 0 rfl) ?_
      refine lv_iconst (v := nI 4) hx hb dX7_again_46 (by decide) ?_
      refine nv_icmp_ge (by omega) (by omega) hx hb dX7_again_47 (tgt := 63) (by decide) (fun c_47 => absurd c_47 (by omega)) (fun c_47 => ?_)
      refine lv_aload_n hx hb dX7_again_50 rfl (lv_at hl 3 rfl) ?_
      refine lv_iload_n hx hb dX7_again_51 rfl (lv_at hl 2 rfl) ?_
      refine lv_iload_n hx hb dX7_again_52 rfl (lv_at hl 0 rfl) ?_
      refine lv_iconst (v := nI 0) hx hb dX7_again_53 (by decide) ?_
      refine gcVv (As := [.int (nI k), .int (nI 0), .int (nI 0)]) F hK hR hml cv_X7_156 (o := 0) rfl rfl rfl (c_X7_set l G A adr (m2 (m2 (sp_agS S k) 12 k (nI 0)) 8 k (nI 0)) X k 0 (nI 0) (by omega) (by omega)) ⟨rfl, rfl⟩ ⟨Nat.le_of_ble_eq_true rfl, Nat.le_of_ble_eq_true rfl⟩ rfl rfl hl.1 (Nat.le_of_ble_eq_true rfl) dX7_again_54 ⟨Nat.zero_le _, Nat.zero_le _⟩ (fun H locs hR => ?_)
      refine lv_iinc (v := nI 1) (lv' := [(3, .int (nI 1)), (1, .int ((sp_agN S k) + (nI 1))), (2, .int (nI k)), (0, .ref (adr 0))]) hx hb dX7_again_57 hl (k := 0) rfl (nI_add _ _) (by decide) rfl (fun ls hl => ?_)
      refine lv_goto (tgt := 45) hx hb dX7_again_60 (by decide) ?_
      refine lv_iload_n hx hb dX7_again_45 rfl (lv_at hl 0 rfl) ?_
      refine lv_iconst (v := nI 4) hx hb dX7_again_46 (by decide) ?_
      refine nv_icmp_ge (by omega) (by omega) hx hb dX7_again_47 (tgt := 63) (by decide) (fun c_47 => absurd c_47 (by omega)) (fun c_47 => ?_)
      refine lv_aload_n hx hb dX7_again_50 rfl (lv_at hl 3 rfl) ?_
      refine lv_iload_n hx hb dX7_again_51 rfl (lv_at hl 2 rfl) ?_
      refine lv_iload_n hx hb dX7_again_52 rfl (lv_at hl 0 rfl) ?_
      refine lv_iconst (v := nI 0) hx hb dX7_again_53 (by decide) ?_
      refine gcVv (As := [.int (nI k), .int (nI 1), .int (nI 0)]) F hK hR hml cv_X7_156 (o := 0) rfl rfl rfl (c_X7_set l G A adr (sp_set (m2 (m2 (sp_agS S k) 12 k (nI 0)) 8 k (nI 0)) k 0 (nI 0)) X k 1 (nI 0) (by omega) (by omega)) ⟨rfl, rfl⟩ ⟨Nat.le_of_ble_eq_true rfl, Nat.le_of_ble_eq_true rfl⟩ rfl rfl hl.1 (Nat.le_of_ble_eq_true rfl) dX7_again_54 ⟨Nat.zero_le _, Nat.zero_le _⟩ (fun H locs hR => ?_)
      refine lv_iinc (v := nI 2) (lv' := [(3, .int (nI 2)), (1, .int ((sp_agN S k) + (nI 1))), (2, .int (nI k)), (0, .ref (adr 0))]) hx hb dX7_again_57 hl (k := 0) rfl (nI_add _ _) (by decide) rfl (fun ls hl => ?_)
      refine lv_goto (tgt := 45) hx hb dX7_again_60 (by decide) ?_
      refine lv_iload_n hx hb dX7_again_45 rfl (lv_at hl 0 rfl) ?_
      refine lv_iconst (v := nI 4) hx hb dX7_again_46 (by decide) ?_
      refine nv_icmp_ge (by omega) (by omega) hx hb dX7_again_47 (tgt := 63) (by decide) (fun c_47 => absurd c_47 (by omega)) (fun c_47 => ?_)
      refine lv_aload_n hx hb dX7_again_50 rfl (lv_at hl 3 rfl) ?_
      refine lv_iload_n hx hb dX7_again_51 rfl (lv_at hl 2 rfl) ?_
      refine lv_iload_n hx hb dX7_again_52 rfl (lv_at hl 0 rfl) ?_
      refine lv_iconst (v := nI 0) hx hb dX7_again_53 (by decide) ?_
      refine gcVv (As := [.int (nI k), .int (nI 2), .int (nI 0)]) F hK hR hml cv_X7_156 (o := 0) rfl rfl rfl (c_X7_set l G A adr (sp_set (sp_set (m2 (m2 (sp_agS S k) 12 k (nI 0)) 8 k (nI 0)) k 0 (nI 0)) k 1 (nI 0)) X k 2 (nI 0) (by omega) (by omega)) ⟨rfl, rfl⟩ ⟨Nat.le_of_ble_eq_true rfl, Nat.le_of_ble_eq_true rfl⟩ rfl rfl hl.1 (Nat.le_of_ble_eq_true rfl) dX7_again_54 ⟨Nat.zero_le _, Nat.zero_le _⟩ (fun H locs hR => ?_)
      refine lv_iinc (v := nI 3) (lv' := [(3, .int (nI 3)), (1, .int ((sp_agN S k) + (nI 1))), (2, .int (nI k)), (0, .ref (adr 0))]) hx hb dX7_again_57 hl (k := 0) rfl (nI_add _ _) (by decide) rfl (fun ls hl => ?_)
      refine lv_goto (tgt := 45) hx hb dX7_again_60 (by decide) ?_
      refine lv_iload_n hx hb dX7_again_45 rfl (lv_at hl 0 rfl) ?_
      refine lv_iconst (v := nI 4) hx hb dX7_again_46 (by decide) ?_
      refine nv_icmp_ge (by omega) (by omega) hx hb dX7_again_47 (tgt := 63) (by decide) (fun c_47 => absurd c_47 (by omega)) (fun c_47 => ?_)
      refine lv_aload_n hx hb dX7_again_50 rfl (lv_at hl 3 rfl) ?_
      refine lv_iload_n hx hb dX7_again_51 rfl (lv_at hl 2 rfl) ?_
      refine lv_iload_n hx hb dX7_again_52 rfl (lv_at hl 0 rfl) ?_
      refine lv_iconst (v := nI 0) hx hb dX7_again_53 (by decide) ?_
      refine gcVv (As := [.int (nI k), .int (nI 3), .int (nI 0)]) F hK hR hml cv_X7_156 (o := 0) rfl rfl rfl (c_X7_set l G A adr (sp_set (sp_set (sp_set (m2 (m2 (sp_agS S k) 12 k (nI 0)) 8 k (nI 0)) k 0 (nI 0)) k 1 (nI 0)) k 2 (nI 0)) X k 3 (nI 0) (by omega) (by omega)) ⟨rfl, rfl⟩ ⟨Nat.le_of_ble_eq_true rfl, Nat.le_of_ble_eq_true rfl⟩ rfl rfl hl.1 (Nat.le_of_ble_eq_true rfl) dX7_again_54 ⟨Nat.zero_le _, Nat.zero_le _⟩ (fun H locs hR => ?_)
      refine lv_iinc (v := nI 4) (lv' := [(3, .int (nI 4)), (1, .int ((sp_agN S k) + (nI 1))), (2, .int (nI k)), (0, .ref (adr 0))]) hx hb dX7_again_57 hl (k := 0) rfl (nI_add _ _) (by decide) rfl (fun ls hl => ?_)
      refine lv_goto (tgt := 45) hx hb dX7_again_60 (by decide) ?_
      refine lv_iload_n hx hb dX7_again_45 rfl (lv_at hl 0 rfl) ?_
      refine lv_iconst (v := nI 4) hx hb dX7_again_46 (by decide) ?_
      refine nv_icmp_ge (by omega) (by omega) hx hb dX7_again_47 (tgt := 63) (by decide) (fun c_47 => ?_) (fun c_47 => absurd c_47 (by omega))
      refine lv_iinc (v := nI (k + 1)) (lv' := [(2, .int (nI (k + 1))), (3, .int (nI 4)), (1, .int ((sp_agN S k) + (nI 1))), (0, .ref (adr 0))]) hx hb dX7_again_63 hl (k := 2) rfl (nI_add _ _) (by decide) rfl (fun ls hl => ?_)
      refine lv_goto (tgt := 4) hx hb dX7_again_66 (by decide) ?_
      have q : (sp_agN S k) + (nI 1) = sp_agN S (k + 1) := by rw [sp_agN]; repeat (first | rw [if_pos c_9] | rw [if_neg c_9] | rw [if_neg (not_not_intro c_9)] | rw [if_pos c_19] | rw [if_neg c_19] | rw [if_neg (not_not_intro c_19)] | rw [if_pos c_47] | rw [if_neg c_47] | rw [if_neg (not_not_intro c_47)] | rw [if_pos c_47] | rw [if_neg c_47] | rw [if_neg (not_not_intro c_47)] | rw [if_pos c_47] | rw [if_neg c_47] | rw [if_neg (not_not_intro c_47)] | rw [if_pos c_47] | rw [if_neg c_47] | rw [if_neg (not_not_intro c_47)] | rw [if_pos c_47] | rw [if_neg c_47] | rw [if_neg (not_not_intro c_47)])
      have hl2 : lv_has ls 4 [(2, .int (nI (k + 1))), (1, .int (sp_agN S (k + 1))), (0, .ref (adr 0))] := by rw [← q]; exact lv_sub hl [0, 2, 3] rfl
      exact ih _ _ _ _ hl2 hR (by omega) (by omega)
