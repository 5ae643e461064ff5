/-! THE REFERENCE, 1: what its small methods do -/
def sp_has (many x : Int32) : Int32 := if x < 0 then nI 0 else if many ≤ x then nI 0 else nI 1
def sp_isF (f : Int32) : Int32 := if f < 0 then nI 0 else if nI 4 ≤ f then nI 0 else nI 1
theorem sp_has01 (a b : Int32) : sp_has a b = 0 ∨ sp_has a b = 1 := by
  unfold sp_has
  split
  · exact Or.inl rfl
  · split
    · exact Or.inl rfl
    · exact Or.inr rfl
theorem sp_isF01 (b : Int32) : sp_isF b = 0 ∨ sp_isF b = 1 := by
  unfold sp_isF
  split
  · exact Or.inl rfl
  · split
    · exact Or.inl rfl
    · exact Or.inr rfl
theorem has_yes {M x : Int32} {n : Nat} (hM : M = nI n) (hn : n ≤ 12) (h : ¬ sp_has M x = 0) : ∃ j, j < n ∧ x = nI j := by
  subst hM
  rcases pk_ix x (n := n) (by omega) with q | q | ⟨j, q1, q2⟩
  · exact absurd (by simp [sp_has, q]; rfl) h
  · exact absurd (by unfold sp_has; rw [if_pos q]; split <;> rfl) h
  · exact ⟨j, q1, q2⟩
theorem has_no {x : Int32} {n : Nat} (hn : n ≤ 12) (h : sp_has (nI n) x = 0) {j : Nat} (hj : j < n) : x ≠ nI j := by
  intro q
  subst q
  unfold sp_has at h
  rw [if_neg (nI_pos (by omega)), if_neg (nI_ge hj (by omega))] at h
  exact absurd h (by decide)
theorem isF_yes {x : Int32} (h : ¬ sp_isF x = 0) : ∃ j, j < 4 ∧ x = nI j := by
  rcases pk_ix x (n := 4) (by omega) with q | q | ⟨j, q1, q2⟩
  · exact absurd (by simp [sp_isF, q]; rfl) h
  · exact absurd (by unfold sp_isF; rw [if_pos q]; split <;> rfl) h
  · exact ⟨j, q1, q2⟩
theorem isF_nI {j : Nat} (h : j < 4) : sp_isF (nI j) = nI 1 := by
  unfold sp_isF
  rw [if_neg (nI_pos (by omega)), if_neg (nI_ge h (by omega))]
def sp_makeR (n : Nat) : Int32 := if n = 12 then -5 else nI n
def sp_makeS (S : Nat → Nat → Int32) (n : Nat) (fa de pa : Int32) : Nat → Nat → Int32 := if n = 12 then S else m2 (m2 (m2 (m2 S 1 n fa) 2 n de) 3 n pa) 0 0 (nI (n + 1))
def sp_tell (S : Nat → Nat → Int32) (ev : Nat) (so v : Int32) : Nat → Nat → Int32 := if ev < 60 then m2 (m2 (m2 S 14 ev so) 15 ev v) 13 0 (nI (ev + 1)) else S
def sp_ar (S : Nat → Nat → Int32) (w : Int32) : Nat → Nat → Int32 := m2 S 18 0 (S 18 0 + (if nI 10 ≤ w then nI 0 else nI 1))
def rf_push (X : Nat → Nat → Int32) (f : Nat) (w a b : Int32) : Nat → Nat → Int32 := m2 (m2 (m2 (m2 (m2 (m2 (m2 X 23 f w) 24 f a) 25 f b) 26 f (nI 0)) 27 f (nI 0)) 28 f (nI 0)) 22 0 (nI (f + 1))
def sp_get (S : Nat → Nat → Int32) (x f : Nat) : Int32 := S 6 (4 * x + f)
def sp_set (S : Nat → Nat → Int32) (x f : Nat) (v : Int32) : Nat → Nat → Int32 := if S 7 (4 * x + f) = 0 then m2 S 6 (4 * x + f) v else S
def sp_state (S : Nat → Nat → Int32) (x0 : Int32) : Int32 := if sp_has (S 0 0) x0 = 0 then -2 else S 12 x0.toNatClampNeg
def sp_row (S : Nat → Nat → Int32) (x0 : Int32) : Int32 := if sp_has (S 0 0) x0 = 0 then -2 else S 8 x0.toNatClampNeg - nI 1
def sp_field (S : Nat → Nat → Int32) (x0 x1 : Int32) : Int32 := if sp_has (S 0 0) x0 = 0 then nI 0 else if sp_isF x1 = 0 then nI 0 else S 6 (4 * x0.toNatClampNeg + x1.toNatClampNeg)
def sp_count (S : Nat → Nat → Int32) (x0 : Int32) : Int32 := if x0 = 0 then S 13 0 else if x0 = nI 1 then S 16 0 else if x0 = nI 2 then S 17 0 else if x0 = nI 3 then S 18 0 else -3
theorem nI_dec {a b : Nat} {k : Int32} (h : b ≤ a) (hk : k = -nI b := by decide) : nI a + k = nI (a - b) := by
  rw [hk, ← Int32.sub_eq_add_neg, pk_sub h]
set_option maxHeartbeats 4000000 in
set_option maxRecDepth 100000 in
/-- has(x) -/
theorem c_X7_has (l : Launch) (G : gw_G) (A : Nat → Prop) (adr : Nat → Nat) (S X : Nat → Nat → Int32) (x0 : Int32)  : gm l yX7_has cX7_has 2 (some .boolean) (rmL 0) 0 0 A [.ref (adr 0), .int x0] (gW G A adr (rcel G adr S X)) (gW G A adr (rcel G adr S X)) (some (.int (sp_has (S 0 0) x0))) := by
  refine gm_of (own := RX7) (by decide) rfl (Nat.le_of_ble_eq_true rfl) ?_
  intro p e s m below meth c ls F hml hr hlk hnm hK hR hl
  have hx := F.1
  have hb := F.2.1
  have hl : lv_has ls 2 [(0, .ref (adr 0)), (1, .int x0)] := hl
  refine lv_iload_n hx hb dX7_has_0 rfl (lv_at hl 1 rfl) ?_
  refine lv_if_lt (tgt := 16) hx hb dX7_has_1 (by decide) (fun c_1 => ?_) (fun c_1 => ?_)
  · have n_1 := Int32.not_le.mpr c_1
    have hv : nI 0 = sp_has (S 0 0) x0 := by simp only [sp_has, if_pos c_1]
    refine lv_iconst (v := nI 0) hx hb dX7_has_16 (by decide) ?_
    exact gr_z F hr hlk hK hR dX7_has_17 (by decide) (hv) (rfl)
  · have n_1 := Int32.not_lt.mp c_1
    refine lv_iload_n hx hb dX7_has_4 rfl (lv_at hl 1 rfl) ?_
    refine lv_aload_n hx hb dX7_has_5 rfl (lv_at hl 0 rfl) ?_
    refine rg_0 F hK hR dX7_has_6 ?_
    refine lv_icmp_ge (tgt := 16) hx hb dX7_has_9 (by decide) (fun c_9 => ?_) (fun c_9 => ?_)
    · have n_9 := Int32.not_lt.mpr c_9
      have hv : nI 0 = sp_has (S 0 0) x0 := by simp only [sp_has, if_neg c_1, if_pos c_9]
      refine lv_iconst (v := nI 0) hx hb dX7_has_16 (by decide) ?_
      exact gr_z F hr hlk hK hR dX7_has_17 (by decide) (hv) (rfl)
    · have n_9 := Int32.not_le.mp c_9
      have hv : nI 1 = sp_has (S 0 0) x0 := by simp only [sp_has, if_neg c_1, if_neg c_9]
      refine lv_iconst (v := nI 1) hx hb dX7_has_12 (by decide) ?_
      refine lv_goto (tgt := 17) hx hb dX7_has_13 (by decide) ?_
      exact gr_z F hr hlk hK hR dX7_has_17 (by decide) (hv) (rfl)
set_option maxHeartbeats 4000000 in
set_option maxRecDepth 100000 in
/-- isField(f) -/
theorem c_X7_isField (l : Launch) (x0 : Int32)  : gs l yX7_isField cX7_isField 1 (some .boolean) (rmL 0) [.int x0] (sp_isF x0) := by
  refine gs_of (own := RX7) (by decide) rfl (Nat.le_of_ble_eq_true rfl) ?_
  intro p e s m below meth c ls F hml hr hlk hl
  have hx := F.1
  have hb := F.2.1
  have hl : lv_has ls 1 [(0, .int x0)] := hl
  refine lv_iload_n hx hb dX7_isField_0 rfl (lv_at hl 0 rfl) ?_
  refine lv_if_lt (tgt := 13) hx hb dX7_isField_1 (by decide) (fun c_1 => ?_) (fun c_1 => ?_)
  · have n_1 := Int32.not_le.mpr c_1
    have hv : nI 0 = sp_isF x0 := by simp only [sp_isF, if_pos c_1]
    refine lv_iconst (v := nI 0) hx hb dX7_isField_13 (by decide) ?_
    exact gs_z F hr hlk dX7_isField_14 (by decide) hv
  · have n_1 := Int32.not_lt.mp c_1
    refine lv_iload_n hx hb dX7_isField_4 rfl (lv_at hl 0 rfl) ?_
    refine lv_iconst (v := nI 4) hx hb dX7_isField_5 (by decide) ?_
    refine lv_icmp_ge (tgt := 13) hx hb dX7_isField_6 (by decide) (fun c_6 => ?_) (fun c_6 => ?_)
    · have n_6 := Int32.not_lt.mpr c_6
      have hv : nI 0 = sp_isF x0 := by simp only [sp_isF, if_neg c_1, if_pos c_6]
      refine lv_iconst (v := nI 0) hx hb dX7_isField_13 (by decide) ?_
      exact gs_z F hr hlk dX7_isField_14 (by decide) hv
    · have n_6 := Int32.not_le.mp c_6
      have hv : nI 1 = sp_isF x0 := by simp only [sp_isF, if_neg c_1, if_neg c_6]
      refine lv_iconst (v := nI 1) hx hb dX7_isField_9 (by decide) ?_
      refine lv_goto (tgt := 14) hx hb dX7_isField_10 (by decide) ?_
      exact gs_z F hr hlk dX7_isField_14 (by decide) hv
set_option maxHeartbeats 4000000 in
set_option maxRecDepth 100000 in
/-- make(face, defaults, of) -/
theorem c_X7_make (l : Launch) (G : gw_G) (A : Nat → Prop) (adr : Nat → Nat) (S X : Nat → Nat → Int32) (n : Nat) (fa de pa : Int32) (hn0 : S 0 0 = nI n) (hn : n ≤ 12) (hfa : fa = 0 ∨ fa = 1) (hde : de = 0 ∨ de = 1) : gm l yX7_make cX7_make 4 (some .int) (rmL 0) 0 0 A [.ref (adr 0), .int fa, .int de, .int pa] (gW G A adr (rcel G adr S X)) (gW G A adr (rcel G adr (sp_makeS S n fa de pa) X)) (some (.int (sp_makeR n))) := by
  refine gm_of (own := RX7) (by decide) rfl (Nat.le_of_ble_eq_true rfl) ?_
  intro p e s m below meth c ls F hml hr hlk hnm hK hR hl
  have hx := F.1
  have hb := F.2.1
  have hl : lv_has ls 4 [(0, .ref (adr 0)), (1, .int fa), (2, .int de), (3, .int pa)] := hl
  refine lv_aload_n hx hb dX7_make_0 rfl (lv_at hl 0 rfl) ?_
  refine rg_0 F hK hR dX7_make_1 ?_
  refine lv_eq (hn0) ?_
  refine lv_bipush (v := nI 12) hx hb dX7_make_4 (by decide) ?_
  refine nv_icmp_ne (by omega) (by omega) hx hb dX7_make_6 (tgt := 12) (by decide) (fun c_6 => ?_) (fun c_6 => ?_)
  · refine lv_aload_n hx hb dX7_make_12 rfl (lv_at hl 0 rfl) ?_
    refine rg_1 F hK hR dX7_make_13 ?_
    refine lv_aload_n hx hb dX7_make_16 rfl (lv_at hl 0 rfl) ?_
    refine rg_0 F hK hR dX7_make_17 ?_
    refine lv_eq (hn0) ?_
    refine lv_iload_n hx hb dX7_make_20 rfl (lv_at hl 1 rfl) ?_
    refine rs_1 F hK hR (by omega) (hfa) dX7_make_21 (fun H locs hR => ?_)
    refine lv_aload_n hx hb dX7_make_22 rfl (lv_at hl 0 rfl) ?_
    refine rg_2 F hK hR dX7_make_23 ?_
    refine lv_aload_n hx hb dX7_make_26 rfl (lv_at hl 0 rfl) ?_
    refine rg_0 F hK hR dX7_make_27 ?_
    refine lv_eq ((m2_nk (by decide)).trans (hn0)) ?_
    refine lv_iload_n hx hb dX7_make_30 rfl (lv_at hl 2 rfl) ?_
    refine rs_2 F hK hR (by omega) (hde) dX7_make_31 (fun H locs hR => ?_)
    refine lv_aload_n hx hb dX7_make_32 rfl (lv_at hl 0 rfl) ?_
    refine rg_3 F hK hR dX7_make_33 ?_
    refine lv_aload_n hx hb dX7_make_36 rfl (lv_at hl 0 rfl) ?_
    refine rg_0 F hK hR dX7_make_37 ?_
    refine lv_eq (((m2_nk (by decide)).trans (m2_nk (by decide))).trans (hn0)) ?_
    refine lv_iload_n hx hb dX7_make_40 rfl (lv_at hl 3 rfl) ?_
    refine rs_3 F hK hR (by omega) dX7_make_41 (fun H locs hR => ?_)
    refine lv_aload_n hx hb dX7_make_42 rfl (lv_at hl 0 rfl) ?_
    refine lv_dup hx hb dX7_make_43 rfl ?_
    refine rg_0 F hK hR dX7_make_44 ?_
    refine lv_eq ((((m2_nk (by decide)).trans (m2_nk (by decide))).trans (m2_nk (by decide))).trans (hn0)) ?_
    refine lv_iconst (v := nI 1) hx hb dX7_make_47 (by decide) ?_
    refine nv_iadd hx hb dX7_make_48 ?_
    refine rp_0 F hK hR dX7_make_49 (fun H locs hR => ?_)
    refine lv_aload_n hx hb dX7_make_52 rfl (lv_at hl 0 rfl) ?_
    refine rg_0 F hK hR dX7_make_53 ?_
    refine lv_eq (m2_at) ?_
    refine lv_iconst (v := nI 1) hx hb dX7_make_56 (by decide) ?_
    refine nv_isub (by omega) hx hb dX7_make_57 ?_
    exact gr_i F hr hlk hK hR dX7_make_58 (by rw [sp_makeR, if_neg c_6]; exact congrArg nI (by omega)) (by simp only [sp_makeS, if_neg c_6])
  · refine lv_bipush (v := (-5)) hx hb dX7_make_9 (by decide) ?_
    exact gr_i F hr hlk hK hR dX7_make_11 (by simp only [sp_makeR, if_pos c_6]) (by simp only [sp_makeS, if_pos c_6])
set_option maxHeartbeats 4000000 in
set_option maxRecDepth 100000 in
/-- tell(sort, of) -/
theorem c_X7_tell (l : Launch) (G : gw_G) (A : Nat → Prop) (adr : Nat → Nat) (S X : Nat → Nat → Int32) (ev : Nat) (so v : Int32) (hev : S 13 0 = nI ev) (he : ev ≤ 60) : gm l yX7_tell cX7_tell 3 none (rmL 0) 0 0 A [.ref (adr 0), .int so, .int v] (gW G A adr (rcel G adr S X)) (gW G A adr (rcel G adr (sp_tell S ev so v) X)) none := by
  refine gm_of (own := RX7) (by decide) rfl (Nat.le_of_ble_eq_true rfl) ?_
  intro p e s m below meth c ls F hml hr hlk hnm hK hR hl
  have hx := F.1
  have hb := F.2.1
  have hl : lv_has ls 3 [(0, .ref (adr 0)), (1, .int so), (2, .int v)] := hl
  refine lv_aload_n hx hb dX7_tell_0 rfl (lv_at hl 0 rfl) ?_
  refine rg_13 F hK hR dX7_tell_1 ?_
  refine lv_eq (hev) ?_
  refine lv_bipush (v := nI 60) hx hb dX7_tell_4 (by decide) ?_
  refine nv_icmp_ge (by omega) (by omega) hx hb dX7_tell_6 (tgt := 39) (by decide) (fun c_6 => ?_) (fun c_6 => ?_)
  · have n_6 : ¬ (ev < 60) := by omega
    exact gr_v F hr hlk hK hR dX7_tell_39 (by rw [sp_tell, if_neg (by omega)])
  · have n_6 : ¬ (60 ≤ ev) := by omega
    refine lv_aload_n hx hb dX7_tell_9 rfl (lv_at hl 0 rfl) ?_
    refine rg_14 F hK hR dX7_tell_10 ?_
    refine lv_aload_n hx hb dX7_tell_13 rfl (lv_at hl 0 rfl) ?_
    refine rg_13 F hK hR dX7_tell_14 ?_
    refine lv_eq (hev) ?_
    refine lv_iload_n hx hb dX7_tell_17 rfl (lv_at hl 1 rfl) ?_
    refine rs_14 F hK hR (by omega) dX7_tell_18 (fun H locs hR => ?_)
    refine lv_aload_n hx hb dX7_tell_19 rfl (lv_at hl 0 rfl) ?_
    refine rg_15 F hK hR dX7_tell_20 ?_
    refine lv_aload_n hx hb dX7_tell_23 rfl (lv_at hl 0 rfl) ?_
    refine rg_13 F hK hR dX7_tell_24 ?_
    refine lv_eq ((m2_nk (by decide)).trans (hev)) ?_
    refine lv_iload_n hx hb dX7_tell_27 rfl (lv_at hl 2 rfl) ?_
    refine rs_15 F hK hR (by omega) dX7_tell_28 (fun H locs hR => ?_)
    refine lv_aload_n hx hb dX7_tell_29 rfl (lv_at hl 0 rfl) ?_
    refine lv_dup hx hb dX7_tell_30 rfl ?_
    refine rg_13 F hK hR dX7_tell_31 ?_
    refine lv_eq (((m2_nk (by decide)).trans (m2_nk (by decide))).trans (hev)) ?_
    refine lv_iconst (v := nI 1) hx hb dX7_tell_34 (by decide) ?_
    refine nv_iadd hx hb dX7_tell_35 ?_
    refine rp_13 F hK hR dX7_tell_36 (fun H locs hR => ?_)
    exact gr_v F hr hlk hK hR dX7_tell_39 (by simp only [sp_tell, if_pos c_6])
set_option maxHeartbeats 4000000 in
set_option maxRecDepth 100000 in
/-- arise(what) -/
theorem c_X7_arise (l : Launch) (G : gw_G) (A : Nat → Prop) (adr : Nat → Nat) (S X : Nat → Nat → Int32) (w : Int32)  : gm l yX7_arise cX7_arise 2 (some .int) (rmL 0) 0 0 A [.ref (adr 0), .int w] (gW G A adr (rcel G adr S X)) (gW G A adr (rcel G adr (sp_ar S w) X)) (some (.int w)) := by
  refine gm_of (own := RX7) (by decide) rfl (Nat.le_of_ble_eq_true rfl) ?_
  intro p e s m below meth c ls F hml hr hlk hnm hK hR hl
  have hx := F.1
  have hb := F.2.1
  have hl : lv_has ls 2 [(0, .ref (adr 0)), (1, .int w)] := hl
  refine lv_aload_n hx hb dX7_arise_0 rfl (lv_at hl 0 rfl) ?_
  refine lv_dup hx hb dX7_arise_1 rfl ?_
  refine rg_18 F hK hR dX7_arise_2 ?_
  refine lv_iload_n hx hb dX7_arise_5 rfl (lv_at hl 1 rfl) ?_
  refine lv_bipush (v := nI 10) hx hb dX7_arise_6 (by decide) ?_
  refine lv_icmp_ge (tgt := 15) hx hb dX7_arise_8 (by decide) (fun c_8 => ?_) (fun c_8 => ?_)
  · have n_8 := Int32.not_lt.mpr c_8
    refine lv_iconst (v := nI 0) hx hb dX7_arise_15 (by decide) ?_
    refine lv_iadd hx hb dX7_arise_16 ?_
    refine rp_18 F hK hR dX7_arise_17 (fun H locs hR => ?_)
    refine lv_iload_n hx hb dX7_arise_20 rfl (lv_at hl 1 rfl) ?_
    exact gr_i F hr hlk hK hR dX7_arise_21 (rfl) (by simp only [sp_ar, if_pos c_8])
  · have n_8 := Int32.not_le.mp c_8
    refine lv_iconst (v := nI 1) hx hb dX7_arise_11 (by decide) ?_
    refine lv_goto (tgt := 16) hx hb dX7_arise_12 (by decide) ?_
    refine lv_iadd hx hb dX7_arise_16 ?_
    refine rp_18 F hK hR dX7_arise_17 (fun H locs hR => ?_)
    refine lv_iload_n hx hb dX7_arise_20 rfl (lv_at hl 1 rfl) ?_
    exact gr_i F hr hlk hK hR dX7_arise_21 (rfl) (by simp only [sp_ar, if_neg c_8])
set_option maxHeartbeats 4000000 in
set_option maxRecDepth 100000 in
/-- push(what, a, b) -/
theorem c_X7_push (l : Launch) (G : gw_G) (A : Nat → Prop) (adr : Nat → Nat) (S X : Nat → Nat → Int32) (f : Nat) (w a b : Int32) (hf0 : X 22 0 = nI f) (hf : f < 300) : gm l yX7_push cX7_push 4 none (rmL 0) 0 0 A [.ref (adr 0), .int w, .int a, .int b] (gW G A adr (rcel G adr S X)) (gW G A adr (rcel G adr S (rf_push X f w a b))) none := by
  refine gm_of (own := RX7) (by decide) rfl (Nat.le_of_ble_eq_true rfl) ?_
  intro p e s m below meth c ls F hml hr hlk hnm hK hR hl
  have hx := F.1
  have hb := F.2.1
  have hl : lv_has ls 4 [(0, .ref (adr 0)), (1, .int w), (2, .int a), (3, .int b)] := hl
  refine lv_aload_n hx hb dX7_push_0 rfl (lv_at hl 0 rfl) ?_
  refine rg_23 F hK hR dX7_push_1 ?_
  refine lv_aload_n hx hb dX7_push_4 rfl (lv_at hl 0 rfl) ?_
  refine rg_22 F hK hR dX7_push_5 ?_
  refine lv_eq (hf0) ?_
  refine lv_iload_n hx hb dX7_push_8 rfl (lv_at hl 1 rfl) ?_
  refine rs_23 F hK hR (by omega) dX7_push_9 (fun H locs hR => ?_)
  refine lv_aload_n hx hb dX7_push_10 rfl (lv_at hl 0 rfl) ?_
  refine rg_24 F hK hR dX7_push_11 ?_
  refine lv_aload_n hx hb dX7_push_14 rfl (lv_at hl 0 rfl) ?_
  refine rg_22 F hK hR dX7_push_15 ?_
  refine lv_eq ((m2_nk (by decide)).trans (hf0)) ?_
  refine lv_iload_n hx hb dX7_push_18 rfl (lv_at hl 2 rfl) ?_
  refine rs_24 F hK hR (by omega) dX7_push_19 (fun H locs hR => ?_)
  refine lv_aload_n hx hb dX7_push_20 rfl (lv_at hl 0 rfl) ?_
  refine rg_25 F hK hR dX7_push_21 ?_
  refine lv_aload_n hx hb dX7_push_24 rfl (lv_at hl 0 rfl) ?_
  refine rg_22 F hK hR dX7_push_25 ?_
  refine lv_eq (((m2_nk (by decide)).trans (m2_nk (by decide))).trans (hf0)) ?_
  refine lv_iload_n hx hb dX7_push_28 rfl (lv_at hl 3 rfl) ?_
  refine rs_25 F hK hR (by omega) dX7_push_29 (fun H locs hR => ?_)
  refine lv_aload_n hx hb dX7_push_30 rfl (lv_at hl 0 rfl) ?_
  refine rg_26 F hK hR dX7_push_31 ?_
  refine lv_aload_n hx hb dX7_push_34 rfl (lv_at hl 0 rfl) ?_
  refine rg_22 F hK hR dX7_push_35 ?_
  refine lv_eq ((((m2_nk (by decide)).trans (m2_nk (by decide))).trans (m2_nk (by decide))).trans (hf0)) ?_
  refine lv_iconst (v := nI 0) hx hb dX7_push_38 (by decide) ?_
  refine rs_26 F hK hR (by omega) dX7_push_39 (fun H locs hR => ?_)
  refine lv_aload_n hx hb dX7_push_40 rfl (lv_at hl 0 rfl) ?_
  refine rg_27 F hK hR dX7_push_41 ?_
  refine lv_aload_n hx hb dX7_push_44 rfl (lv_at hl 0 rfl) ?_
  refine rg_22 F hK hR dX7_push_45 ?_
  refine lv_eq (((((m2_nk (by decide)).trans (m2_nk (by decide))).trans (m2_nk (by decide))).trans (m2_nk (by decide))).trans (hf0)) ?_
  refine lv_iconst (v := nI 0) hx hb dX7_push_48 (by decide) ?_
  refine rs_27 F hK hR (by omega) dX7_push_49 (fun H locs hR => ?_)
  refine lv_aload_n hx hb dX7_push_50 rfl (lv_at hl 0 rfl) ?_
  refine rg_28 F hK hR dX7_push_51 ?_
  refine lv_aload_n hx hb dX7_push_54 rfl (lv_at hl 0 rfl) ?_
  refine rg_22 F hK hR dX7_push_55 ?_
  refine lv_eq ((((((m2_nk (by decide)).trans (m2_nk (by decide))).trans (m2_nk (by decide))).trans (m2_nk (by decide))).trans (m2_nk (by decide))).trans (hf0)) ?_
  refine lv_iconst (v := nI 0) hx hb dX7_push_58 (by decide) ?_
  refine rs_28 F hK hR (by omega) dX7_push_59 (fun H locs hR => ?_)
  refine lv_aload_n hx hb dX7_push_60 rfl (lv_at hl 0 rfl) ?_
  refine lv_dup hx hb dX7_push_61 rfl ?_
  refine rg_22 F hK hR dX7_push_62 ?_
  refine lv_eq (((((((m2_nk (by decide)).trans (m2_nk (by decide))).trans (m2_nk (by decide))).trans (m2_nk (by decide))).trans (m2_nk (by decide))).trans (m2_nk (by decide))).trans (hf0)) ?_
  refine lv_iconst (v := nI 1) hx hb dX7_push_65 (by decide) ?_
  refine nv_iadd hx hb dX7_push_66 ?_
  refine rp_22 F hK hR dX7_push_67 (fun H locs hR => ?_)
  exact gr_v F hr hlk hK hR dX7_push_70 (rfl)
set_option maxHeartbeats 4000000 in
set_option maxRecDepth 100000 in
/-- get(x, f) -/
theorem c_X7_get (l : Launch) (G : gw_G) (A : Nat → Prop) (adr : Nat → Nat) (S X : Nat → Nat → Int32) (x f : Nat) (hxx : x < 12) (hff : f < 4) : gm l yX7_get cX7_get 3 (some .int) (rmL 0) 0 0 A [.ref (adr 0), .int (nI x), .int (nI f)] (gW G A adr (rcel G adr S X)) (gW G A adr (rcel G adr S X)) (some (.int (sp_get S x f))) := by
  refine gm_of (own := RX7) (by decide) rfl (Nat.le_of_ble_eq_true rfl) ?_
  intro p e s m below meth c ls F hml hr hlk hnm hK hR hl
  have hx := F.1
  have hb := F.2.1
  have hl : lv_has ls 3 [(0, .ref (adr 0)), (1, .int (nI x)), (2, .int (nI f))] := hl
  refine lv_aload_n hx hb dX7_get_0 rfl (lv_at hl 0 rfl) ?_
  refine rg_6 F hK hR dX7_get_1 ?_
  refine lv_iconst (v := nI 4) hx hb dX7_get_4 (by decide) ?_
  refine lv_iload_n hx hb dX7_get_5 rfl (lv_at hl 1 rfl) ?_
  refine nv_imul hx hb dX7_get_6 ?_
  refine lv_iload_n hx hb dX7_get_7 rfl (lv_at hl 2 rfl) ?_
  refine nv_iadd hx hb dX7_get_8 ?_
  refine ri_6 F hK hR (by omega) dX7_get_9 ?_
  exact gr_i F hr hlk hK hR dX7_get_10 (rfl) (rfl)
set_option maxHeartbeats 4000000 in
set_option maxRecDepth 100000 in
/-- set(x, f, v) -/
theorem c_X7_set (l : Launch) (G : gw_G) (A : Nat → Prop) (adr : Nat → Nat) (S X : Nat → Nat → Int32) (x f : Nat) (v : Int32) (hxx : x < 12) (hff : f < 4) : gm l yX7_set cX7_set 4 none (rmL 0) 0 0 A [.ref (adr 0), .int (nI x), .int (nI f), .int v] (gW G A adr (rcel G adr S X)) (gW G A adr (rcel G adr (sp_set S x f v) X)) none := by
  refine gm_of (own := RX7) (by decide) rfl (Nat.le_of_ble_eq_true rfl) ?_
  intro p e s m below meth c ls F hml hr hlk hnm hK hR hl
  have hx := F.1
  have hb := F.2.1
  have hl : lv_has ls 4 [(0, .ref (adr 0)), (1, .int (nI x)), (2, .int (nI f)), (3, .int v)] := hl
  refine lv_aload_n hx hb dX7_set_0 rfl (lv_at hl 0 rfl) ?_
  refine rg_7 F hK hR dX7_set_1 ?_
  refine lv_iconst (v := nI 4) hx hb dX7_set_4 (by decide) ?_
  refine lv_iload_n hx hb dX7_set_5 rfl (lv_at hl 1 rfl) ?_
  refine nv_imul hx hb dX7_set_6 ?_
  refine lv_iload_n hx hb dX7_set_7 rfl (lv_at hl 2 rfl) ?_
  refine nv_iadd hx hb dX7_set_8 ?_
  refine ri_7 F hK hR (by omega) dX7_set_9 ?_
  refine lv_if_ne (tgt := 24) hx hb dX7_set_10 (by decide) (fun c_10 => ?_) (fun c_10 => ?_)
  · exact gr_v F hr hlk hK hR dX7_set_24 (by simp [sp_set, c_10])
  · refine lv_aload_n hx hb dX7_set_13 rfl (lv_at hl 0 rfl) ?_
    refine rg_6 F hK hR dX7_set_14 ?_
    refine lv_iconst (v := nI 4) hx hb dX7_set_17 (by decide) ?_
    refine lv_iload_n hx hb dX7_set_18 rfl (lv_at hl 1 rfl) ?_
    refine nv_imul hx hb dX7_set_19 ?_
    refine lv_iload_n hx hb dX7_set_20 rfl (lv_at hl 2 rfl) ?_
    refine nv_iadd hx hb dX7_set_21 ?_
    refine lv_iload_n hx hb dX7_set_22 rfl (lv_at hl 3 rfl) ?_
    refine rs_6 F hK hR (by omega) dX7_set_23 (fun H locs hR => ?_)
    exact gr_v F hr hlk hK hR dX7_set_24 (by simp [sp_set, c_10])
set_option maxHeartbeats 4000000 in
set_option maxRecDepth 100000 in
/-- cause() -/
theorem c_X7_cause (l : Launch) (G : gw_G) (A : Nat → Prop) (adr : Nat → Nat) (S X : Nat → Nat → Int32)   : gm l yX7_cause cX7_cause 1 (some .int) (rmL 0) 0 0 A [.ref (adr 0)] (gW G A adr (rcel G adr S X)) (gW G A adr (rcel G adr S X)) (some (.int (X 20 0))) := by
  refine gm_of (own := RX7) (by decide) rfl (Nat.le_of_ble_eq_true rfl) ?_
  intro p e s m below meth c ls F hml hr hlk hnm hK hR hl
  have hx := F.1
  have hb := F.2.1
  have hl : lv_has ls 1 [(0, .ref (adr 0))] := hl
  refine lv_aload_n hx hb dX7_cause_0 rfl (lv_at hl 0 rfl) ?_
  refine rg_20 F hK hR dX7_cause_1 ?_
  exact gr_i F hr hlk hK hR dX7_cause_4 (rfl) (rfl)
set_option maxHeartbeats 4000000 in
set_option maxRecDepth 100000 in
/-- count(what) -/
theorem c_X7_count (l : Launch) (G : gw_G) (A : Nat → Prop) (adr : Nat → Nat) (S X : Nat → Nat → Int32) (x0 : Int32)  : gm l yX7_count cX7_count 2 (some .int) (rmL 0) 0 0 A [.ref (adr 0), .int x0] (gW G A adr (rcel G adr S X)) (gW G A adr (rcel G adr S X)) (some (.int (sp_count S x0))) := by
  refine gm_of (own := RX7) (by decide) rfl (Nat.le_of_ble_eq_true rfl) ?_
  intro p e s m below meth c ls F hml hr hlk hnm hK hR hl
  have hx := F.1
  have hb := F.2.1
  have hl : lv_has ls 2 [(0, .ref (adr 0)), (1, .int x0)] := hl
  refine lv_iload_n hx hb dX7_count_0 rfl (lv_at hl 1 rfl) ?_
  refine lv_if_ne (tgt := 11) hx hb dX7_count_1 (by decide) (fun c_1 => ?_) (fun c_1 => ?_)
  · refine lv_iload_n hx hb dX7_count_11 rfl (lv_at hl 1 rfl) ?_
    refine lv_iconst (v := nI 1) hx hb dX7_count_12 (by decide) ?_
    refine lv_icmp_ne (tgt := 23) hx hb dX7_count_13 (by decide) (fun c_13 => ?_) (fun c_13 => ?_)
    · refine lv_iload_n hx hb dX7_count_23 rfl (lv_at hl 1 rfl) ?_
      refine lv_iconst (v := nI 2) hx hb dX7_count_24 (by decide) ?_
      refine lv_icmp_ne (tgt := 35) hx hb dX7_count_25 (by decide) (fun c_25 => ?_) (fun c_25 => ?_)
      · refine lv_iload_n hx hb dX7_count_35 rfl (lv_at hl 1 rfl) ?_
        refine lv_iconst (v := nI 3) hx hb dX7_count_36 (by decide) ?_
        refine lv_icmp_ne (tgt := 47) hx hb dX7_count_37 (by decide) (fun c_37 => ?_) (fun c_37 => ?_)
        · refine lv_bipush (v := (-3)) hx hb dX7_count_47 (by decide) ?_
          exact gr_i F hr hlk hK hR dX7_count_49 (by unfold sp_count; repeat (first | rw [if_pos c_1] | rw [if_neg c_1] | rw [if_neg (not_not_intro c_1)] | rw [if_pos c_13] | rw [if_neg c_13] | rw [if_neg (not_not_intro c_13)] | rw [if_pos c_25] | rw [if_neg c_25] | rw [if_neg (not_not_intro c_25)] | rw [if_pos c_37] | rw [if_neg c_37] | rw [if_neg (not_not_intro c_37)])) (rfl)
        · refine lv_aload_n hx hb dX7_count_40 rfl (lv_at hl 0 rfl) ?_
          refine rg_18 F hK hR dX7_count_41 ?_
          refine lv_goto (tgt := 49) hx hb dX7_count_44 (by decide) ?_
          exact gr_i F hr hlk hK hR dX7_count_49 (by unfold sp_count; repeat (first | rw [if_pos c_1] | rw [if_neg c_1] | rw [if_neg (not_not_intro c_1)] | rw [if_pos c_13] | rw [if_neg c_13] | rw [if_neg (not_not_intro c_13)] | rw [if_pos c_25] | rw [if_neg c_25] | rw [if_neg (not_not_intro c_25)] | rw [if_pos c_37] | rw [if_neg c_37] | rw [if_neg (not_not_intro c_37)])) (rfl)
      · refine lv_aload_n hx hb dX7_count_28 rfl (lv_at hl 0 rfl) ?_
        refine rg_17 F hK hR dX7_count_29 ?_
        refine lv_goto (tgt := 49) hx hb dX7_count_32 (by decide) ?_
        exact gr_i F hr hlk hK hR dX7_count_49 (by unfold sp_count; repeat (first | rw [if_pos c_1] | rw [if_neg c_1] | rw [if_neg (not_not_intro c_1)] | rw [if_pos c_13] | rw [if_neg c_13] | rw [if_neg (not_not_intro c_13)] | rw [if_pos c_25] | rw [if_neg c_25] | rw [if_neg (not_not_intro c_25)])) (rfl)
    · refine lv_aload_n hx hb dX7_count_16 rfl (lv_at hl 0 rfl) ?_
      refine rg_16 F hK hR dX7_count_17 ?_
      refine lv_goto (tgt := 49) hx hb dX7_count_20 (by decide) ?_
      exact gr_i F hr hlk hK hR dX7_count_49 (by unfold sp_count; repeat (first | rw [if_pos c_1] | rw [if_neg c_1] | rw [if_neg (not_not_intro c_1)] | rw [if_pos c_13] | rw [if_neg c_13] | rw [if_neg (not_not_intro c_13)])) (rfl)
  · refine lv_aload_n hx hb dX7_count_4 rfl (lv_at hl 0 rfl) ?_
    refine rg_13 F hK hR dX7_count_5 ?_
    refine lv_goto (tgt := 49) hx hb dX7_count_8 (by decide) ?_
    exact gr_i F hr hlk hK hR dX7_count_49 (by unfold sp_count; repeat (first | rw [if_pos c_1] | rw [if_neg c_1] | rw [if_neg (not_not_intro c_1)])) (rfl)
set_option maxHeartbeats 4000000 in
set_option maxRecDepth 100000 in
/-- state(x) -/
theorem c_X7_state (l : Launch) (G : gw_G) (A : Nat → Prop) (adr : Nat → Nat) (S X : Nat → Nat → Int32) (n : Nat) (x0 : Int32) (hn0 : S 0 0 = nI n) (hn : n ≤ 12) : gm l yX7_state cX7_state 2 (some .int) (rmL 1) 0 0 A [.ref (adr 0), .int x0] (gW G A adr (rcel G adr S X)) (gW G A adr (rcel G adr S X)) (some (.int (sp_state S x0))) := by
  refine gm_of (own := RX7) (by decide) rfl (Nat.le_of_ble_eq_true rfl) ?_
  intro p e s m below meth c ls F hml hr hlk hnm hK hR hl
  have hx := F.1
  have hb := F.2.1
  have hl : lv_has ls 2 [(0, .ref (adr 0)), (1, .int x0)] := hl
  refine lv_aload_n hx hb dX7_state_0 rfl (lv_at hl 0 rfl) ?_
  refine lv_iload_n hx hb dX7_state_1 rfl (lv_at hl 1 rfl) ?_
  refine gcVi (As := [.int x0]) F hK hR hml cv_X7_87 (o := 0) rfl rfl rfl (c_X7_has l G A adr S X x0) ⟨rfl, rfl⟩ ⟨Nat.le_of_ble_eq_true rfl, Nat.le_of_ble_eq_true rfl⟩ rfl rfl hl.1 (Nat.le_of_ble_eq_true rfl) dX7_state_2 ⟨Nat.zero_le _, Nat.zero_le _⟩ (fun H locs hR => ?_)
  refine lv_if_eq (tgt := 17) hx hb dX7_state_5 (by decide) (fun c_5 => ?_) (fun c_5 => ?_)
  · refine lv_bipush (v := (-2)) hx hb dX7_state_17 (by decide) ?_
    exact gr_i F hr hlk hK hR dX7_state_19 (by rw [sp_state, if_pos c_5]) (rfl)
  · obtain ⟨x, h_x, rfl⟩ := has_yes hn0 hn c_5
    refine lv_aload_n hx hb dX7_state_8 rfl (lv_at hl 0 rfl) ?_
    refine rg_12 F hK hR dX7_state_9 ?_
    refine lv_iload_n hx hb dX7_state_12 rfl (lv_at hl 1 rfl) ?_
    refine ri_12 F hK hR (by omega) dX7_state_13 ?_
    refine lv_goto (tgt := 19) hx hb dX7_state_14 (by decide) ?_
    exact gr_i F hr hlk hK hR dX7_state_19 (by rw [sp_state, if_neg c_5, nI_clamp (by omega)]) (rfl)
set_option maxHeartbeats 4000000 in
set_option maxRecDepth 100000 in
/-- row(x) -/
theorem c_X7_row (l : Launch) (G : gw_G) (A : Nat → Prop) (adr : Nat → Nat) (S X : Nat → Nat → Int32) (n : Nat) (x0 : Int32) (hn0 : S 0 0 = nI n) (hn : n ≤ 12) : gm l yX7_row cX7_row 2 (some .int) (rmL 1) 0 0 A [.ref (adr 0), .int x0] (gW G A adr (rcel G adr S X)) (gW G A adr (rcel G adr S X)) (some (.int (sp_row S x0))) := by
  refine gm_of (own := RX7) (by decide) rfl (Nat.le_of_ble_eq_true rfl) ?_
  intro p e s m below meth c ls F hml hr hlk hnm hK hR hl
  have hx := F.1
  have hb := F.2.1
  have hl : lv_has ls 2 [(0, .ref (adr 0)), (1, .int x0)] := hl
  refine lv_aload_n hx hb dX7_row_0 rfl (lv_at hl 0 rfl) ?_
  refine lv_iload_n hx hb dX7_row_1 rfl (lv_at hl 1 rfl) ?_
  refine gcVi (As := [.int x0]) F hK hR hml cv_X7_87 (o := 0) rfl rfl rfl (c_X7_has l G A adr S X x0) ⟨rfl, rfl⟩ ⟨Nat.le_of_ble_eq_true rfl, Nat.le_of_ble_eq_true rfl⟩ rfl rfl hl.1 (Nat.le_of_ble_eq_true rfl) dX7_row_2 ⟨Nat.zero_le _, Nat.zero_le _⟩ (fun H locs hR => ?_)
  refine lv_if_eq (tgt := 19) hx hb dX7_row_5 (by decide) (fun c_5 => ?_) (fun c_5 => ?_)
  · refine lv_bipush (v := (-2)) hx hb dX7_row_19 (by decide) ?_
    exact gr_i F hr hlk hK hR dX7_row_21 (by rw [sp_row, if_pos c_5]) (rfl)
  · obtain ⟨x, h_x, rfl⟩ := has_yes hn0 hn c_5
    refine lv_aload_n hx hb dX7_row_8 rfl (lv_at hl 0 rfl) ?_
    refine rg_8 F hK hR dX7_row_9 ?_
    refine lv_iload_n hx hb dX7_row_12 rfl (lv_at hl 1 rfl) ?_
    refine ri_8 F hK hR (by omega) dX7_row_13 ?_
    refine lv_iconst (v := nI 1) hx hb dX7_row_14 (by decide) ?_
    refine lv_isub hx hb dX7_row_15 ?_
    refine lv_goto (tgt := 21) hx hb dX7_row_16 (by decide) ?_
    exact gr_i F hr hlk hK hR dX7_row_21 (by rw [sp_row, if_neg c_5, nI_clamp (by omega)]) (rfl)
set_option maxHeartbeats 4000000 in
set_option maxRecDepth 100000 in
/-- field(x, f) -/
theorem c_X7_field (l : Launch) (G : gw_G) (A : Nat → Prop) (adr : Nat → Nat) (S X : Nat → Nat → Int32) (n : Nat) (x0 x1 : Int32) (hn0 : S 0 0 = nI n) (hn : n ≤ 12) : gm l yX7_field cX7_field 3 (some .int) (rmL 1) 0 0 A [.ref (adr 0), .int x0, .int x1] (gW G A adr (rcel G adr S X)) (gW G A adr (rcel G adr S X)) (some (.int (sp_field S x0 x1))) := by
  refine gm_of (own := RX7) (by decide) rfl (Nat.le_of_ble_eq_true rfl) ?_
  intro p e s m below meth c ls F hml hr hlk hnm hK hR hl
  have hx := F.1
  have hb := F.2.1
  have hl : lv_has ls 3 [(0, .ref (adr 0)), (1, .int x0), (2, .int x1)] := hl
  refine lv_aload_n hx hb dX7_field_0 rfl (lv_at hl 0 rfl) ?_
  refine lv_iload_n hx hb dX7_field_1 rfl (lv_at hl 1 rfl) ?_
  refine gcVi (As := [.int x0]) F hK hR hml cv_X7_87 (o := 0) rfl rfl rfl (c_X7_has l G A adr S X x0) ⟨rfl, rfl⟩ ⟨Nat.le_of_ble_eq_true rfl, Nat.le_of_ble_eq_true rfl⟩ rfl rfl hl.1 (Nat.le_of_ble_eq_true rfl) dX7_field_2 ⟨Nat.zero_le _, Nat.zero_le _⟩ (fun H locs hR => ?_)
  refine lv_if_eq (tgt := 24) hx hb dX7_field_5 (by decide) (fun c_5 => ?_) (fun c_5 => ?_)
  · refine lv_iconst (v := nI 0) hx hb dX7_field_24 (by decide) ?_
    exact gr_i F hr hlk hK hR dX7_field_25 (by simp [sp_field, c_5]) (rfl)
  · obtain ⟨x, h_x, rfl⟩ := has_yes hn0 hn c_5
    refine lv_iload_n hx hb dX7_field_8 rfl (lv_at hl 2 rfl) ?_
    refine gcS (As := [.int x1]) F hml cs_X7_95 (c_X7_isField l x1) ⟨rfl, rfl⟩ ⟨Nat.le_of_ble_eq_true rfl, Nat.le_of_ble_eq_true rfl⟩ rfl rfl hl.1 (Nat.le_of_ble_eq_true rfl) dX7_field_9 ⟨Nat.zero_le _, Nat.zero_le _⟩ ?_
    refine lv_if_eq (tgt := 24) hx hb dX7_field_12 (by decide) (fun c_12 => ?_) (fun c_12 => ?_)
    · refine lv_iconst (v := nI 0) hx hb dX7_field_24 (by decide) ?_
      exact gr_i F hr hlk hK hR dX7_field_25 (by simp [sp_field, c_5, c_12]) (rfl)
    · obtain ⟨f, h_f, rfl⟩ := isF_yes c_12
      refine lv_aload_n hx hb dX7_field_15 rfl (lv_at hl 0 rfl) ?_
      refine lv_iload_n hx hb dX7_field_16 rfl (lv_at hl 1 rfl) ?_
      refine lv_iload_n hx hb dX7_field_17 rfl (lv_at hl 2 rfl) ?_
      refine gcVi (As := [.int (nI x), .int (nI f)]) F hK hR hml cv_X7_162 (o := 0) rfl rfl rfl (c_X7_get l G A adr S X x f (by omega) (by omega)) ⟨rfl, rfl⟩ ⟨Nat.le_of_ble_eq_true rfl, Nat.le_of_ble_eq_true rfl⟩ rfl rfl hl.1 (Nat.le_of_ble_eq_true rfl) dX7_field_18 ⟨Nat.zero_le _, Nat.zero_le _⟩ (fun H locs hR => ?_)
      refine lv_goto (tgt := 25) hx hb dX7_field_21 (by decide) ?_
      exact gr_i F hr hlk hK hR dX7_field_25 (by rw [sp_field, if_neg c_5, if_neg c_12, nI_clamp (by omega), nI_clamp (by omega)]; rfl) (rfl)
