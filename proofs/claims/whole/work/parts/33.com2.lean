/-! THE CLASS, 2: Act, Method, the machine's small methods -/
theorem acmp_k {G : gw_G} {A : Nat → Prop} {adr : Nat → Nat} {n : Nat} {S Y : Nat → Nat → Int32} {L : Int64} {H0 H : Heap} {locs : List Loc} (hR : cB G A adr n S Y L H0 H locs) {z x : Nat} (hz : z < n) (hx : x < n) (h : some (adr (nk z 0)) = some (adr (nk x 0))) : z = x := by
  have q := hR.2.1.2 (nk z 0) (nk x 0) (by rw [ccel_k hz (by decide)]; exact fun h => by cases h) (by rw [ccel_k hx (by decide)]; exact fun h => by cases h) (Option.some.inj h)
  have q2 : 8 + 60 * z + 0 = 8 + 60 * x + 0 := q
  omega
theorem ar_lt {S : Nat → Nat → Int32} {w : Int32} (h : ¬ nI 10 ≤ w) : sp_ar S w = m2 S 18 0 (S 18 0 + nI 1) := by rw [sp_ar, if_neg h]
theorem isK_z {S : Nat → Nat → Int32} {x f : Nat} : sp_isK S x f = 0 ↔ S 7 (4 * x + f) = 0 := by
  unfold sp_isK
  by_cases h : S 7 (4 * x + f) = 0
  · rw [if_pos h]
    exact ⟨fun _ => h, fun _ => rfl⟩
  · rw [if_neg h]
    exact ⟨fun q => absurd q (by decide), fun q => absurd q h⟩
theorem half_no {S : Nat → Nat → Int32} {x z g : Nat} (h : S 7 (4 * z + g) = 0 → ¬ z = x → ¬ S 12 z = nI 1) : sp_half S x z g = S := by
  unfold sp_half
  have e : (if S 7 (4 * z + g) = 0 then (if z = x then nI 0 else if S 12 z = nI 1 then nI 1 else nI 0) else nI 0) = nI 0 := by
    by_cases h7 : S 7 (4 * z + g) = 0
    · rw [if_pos h7]
      by_cases hz : z = x
      · rw [if_pos hz]
      · rw [if_neg hz, if_neg (h h7 hz)]
    · rw [if_neg h7]
  rw [e]
  exact m2_id (Int32.add_zero _).symm
theorem half_yes {S : Nat → Nat → Int32} {x z g : Nat} (h7 : S 7 (4 * z + g) = 0) (hz : ¬ z = x) (h12 : S 12 z = nI 1) : sp_half S x z g = m2 S 16 0 (S 16 0 + nI 1) := by
  unfold sp_half
  rw [if_pos h7, if_neg hz, if_pos h12]
def io_R (S : Nat → Nat → Int32) (x : Nat) (i : Int32) : Int32 := if S 8 x = 0 then nI 4 else if i < 0 then nI 5 else if S 8 x - nI 1 ≤ i then nI 5 else -1
def io_in (S : Nat → Nat → Int32) (x : Nat) (i v : Int32) : Nat → Nat → Int32 := if S 8 x = 0 then sp_ar S (nI 4) else if i < 0 then sp_ar S (nI 5) else if S 8 x - nI 1 ≤ i then sp_ar S (nI 5) else m2 S 9 (20 * x + i.toNatClampNeg) v
def io_out (S : Nat → Nat → Int32) (x f : Nat) (i : Int32) : Nat → Nat → Int32 := if S 8 x = 0 then sp_ar S (nI 4) else if i < 0 then sp_ar S (nI 5) else if S 8 x - nI 1 ≤ i then sp_ar S (nI 5) else sp_set S x f (S 9 (20 * x + i.toNatClampNeg))
theorem items_m1 {M : Int32} : M - nI 1 = -1 ↔ M = 0 := by
  constructor
  · intro h
    have q := congrArg (fun z : Int32 => z + nI 1) h
    have e : M - nI 1 + nI 1 = M := by rw [Int32.sub_add_cancel]
    have q2 : M - nI 1 + nI 1 = -1 + nI 1 := q
    rw [e] at q2
    rw [q2]
    decide
  · intro h
    subst h
    decide
theorem hasI_no {S : Nat → Nat → Int32} {x : Nat} {i : Int32} (h : sp_hasI S x i = 0) (h8 : ¬ S 8 x = 0) : io_R S x i = nI 5 ∧ ∀ v, io_in S x i v = sp_ar S (nI 5) ∧ ∀ f, io_out S x f i = sp_ar S (nI 5) := by
  unfold sp_hasI at h
  by_cases h1 : i < 0
  · unfold io_R io_in io_out
    simp only [if_neg h8, if_pos h1, true_and, implies_true]
  · rw [if_neg h1] at h
    by_cases h2 : S 8 x - nI 1 ≤ i
    · unfold io_R io_in io_out
      simp only [if_neg h8, if_neg h1, if_pos h2, true_and, implies_true]
    · rw [if_neg h2] at h
      exact absurd h (by decide)
theorem hasI_yes {S : Nat → Nat → Int32} {x r : Nat} {i : Int32} (hr : S 8 x = nI r) (hr2 : r ≤ 21) (h : ¬ sp_hasI S x i = 0) : (∃ j, j < 20 ∧ i = nI j) ∧ ¬ S 8 x = 0 ∧ ¬ i < 0 ∧ ¬ S 8 x - nI 1 ≤ i := by
  unfold sp_hasI at h
  by_cases h1 : i < 0
  · rw [if_pos h1] at h
    exact absurd rfl h
  · rw [if_neg h1] at h
    by_cases h2 : S 8 x - nI 1 ≤ i
    · rw [if_pos h2] at h
      exact absurd rfl h
    · obtain ⟨j, q1, q2⟩ := row_yes hr hr2 h1 h2
      refine ⟨⟨j, by omega, q2⟩, ?_, h1, h2⟩
      intro q
      rw [hr] at q
      have := (nI_z (by omega)).mp q
      omega
set_option maxHeartbeats 4000000 in
set_option maxRecDepth 100000 in
/-- Machine.raise(thrown) -/
theorem c_X3_raise (l : Launch) (G : gw_G) (A : Nat → Prop) (adr : Nat → Nat) (n : Nat) (S Y : Nat → Nat → Int32) (L : Int64) (w : Int32) (hw : ¬ nI 10 ≤ w) : gm l yX3_raise cX3_raise 2 (some .int) (rmL 0) 0 0 A [.ref (adr 2), .int w] (gW G A adr (ccel G adr n S Y L)) (gW G A adr (ccel G adr n (sp_ar S w) Y L)) (some (.int w)) := by
  refine gm_of (own := RX3) (by decide) rfl (Nat.le_of_ble_eq_true rfl) ?_
  intro p e s m below meth c ls F hml hr hlk hnm hK hR hl
  have hx := F.1
  have hb := F.2.1
  replace hl : lv_has ls 2 [(0, .ref (adr 2)), (1, .int w)] := hl
  refine lv_aload_n hx hb dX3_raise_0 rfl (lv_at hl 0 rfl) ?_
  refine ng_0 F hK hR fl_X3_12 dX3_raise_1 ?_
  refine lv_dup hx hb dX3_raise_4 rfl ?_
  refine jg_5 F hK hR fl_X3_33 dX3_raise_5 ?_
  refine lv_iconst (v := nI 1) hx hb dX3_raise_8 (by decide) ?_
  refine lv_iadd hx hb dX3_raise_9 ?_
  refine jp_5 F hK hR fl_X3_33 dX3_raise_10 (fun H locs hR => ?_)
  refine lv_iload_n hx hb dX3_raise_13 rfl (lv_at hl 1 rfl) ?_
  exact gr_i F hr hlk hK hR dX3_raise_14 (rfl) (by rw [ar_lt hw])
set_option maxHeartbeats 4000000 in
set_option maxRecDepth 100000 in
/-- afterStart of 0 .. 6 -/
theorem c_X3_afterS (l : Launch) (G : gw_G) (A : Nat → Prop) (adr : Nat → Nat) (n : Nat) (S Y : Nat → Nat → Int32) (L : Int64) (w : Int32) (hw : w < nI 7) : gm l yX3_afterStart cX3_afterStart 2 (some .int) (rmL 1) 0 0 A [.ref (adr 2), .int w] (gW G A adr (ccel G adr n S Y L)) (gW G A adr (ccel G adr n (sp_ar S (nI 7)) (m2 Y 1 0 w) L)) (some (.int (nI 7))) := by
  refine gm_of (own := RX3) (by decide) rfl (Nat.le_of_ble_eq_true rfl) ?_
  intro p e s m below meth c ls F hml hr hlk hnm hK hR hl
  have hx := F.1
  have hb := F.2.1
  replace hl : lv_has ls 2 [(0, .ref (adr 2)), (1, .int w)] := hl
  refine lv_iload_n hx hb dX3_afterStart_0 rfl (lv_at hl 1 rfl) ?_
  refine lv_bipush (v := nI 7) hx hb dX3_afterStart_1 (by decide) ?_
  refine lv_icmp_lt (tgt := 8) hx hb dX3_afterStart_3 (by decide) (fun c_3 => ?_) (fun c_3 => absurd hw c_3)
  refine lv_aload_n hx hb dX3_afterStart_8 rfl (lv_at hl 0 rfl) ?_
  refine ng_0 F hK hR fl_X3_12 dX3_afterStart_9 ?_
  refine lv_iload_n hx hb dX3_afterStart_12 rfl (lv_at hl 1 rfl) ?_
  refine jp_7 F hK hR fl_X3_69 dX3_afterStart_13 (fun H locs hR => ?_)
  refine lv_aload_n hx hb dX3_afterStart_16 rfl (lv_at hl 0 rfl) ?_
  refine lv_bipush (v := nI 7) hx hb dX3_afterStart_17 (by decide) ?_
  refine gcVi (As := [.int (nI 7)]) F hK hR hml cv_X3_41 (o := 2) (rfl) rfl rfl (c_X3_raise l G A adr n S (m2 Y 1 0 w) L (nI 7) (by decide)) ⟨rfl, rfl⟩ ⟨Nat.le_of_ble_eq_true rfl, Nat.le_of_ble_eq_true rfl⟩ rfl rfl hl.1 (Nat.le_of_ble_eq_true rfl) dX3_afterStart_19 ⟨Nat.zero_le _, Nat.zero_le _⟩ (fun H locs hR => ?_)
  exact gr_i F hr hlk hK hR dX3_afterStart_22 (rfl) (rfl)
set_option maxHeartbeats 4000000 in
set_option maxRecDepth 100000 in
/-- afterStart of 7 and above -/
theorem c_X3_afterT (l : Launch) (G : gw_G) (A : Nat → Prop) (adr : Nat → Nat) (n : Nat) (S Y : Nat → Nat → Int32) (L : Int64) (w : Int32) (hw : ¬ w < nI 7) : gm l yX3_afterStart cX3_afterStart 2 (some .int) (rmL 1) 0 0 A [.ref (adr 2), .int w] (gW G A adr (ccel G adr n S Y L)) (gW G A adr (ccel G adr n S Y L)) (some (.int w)) := by
  refine gm_of (own := RX3) (by decide) rfl (Nat.le_of_ble_eq_true rfl) ?_
  intro p e s m below meth c ls F hml hr hlk hnm hK hR hl
  have hx := F.1
  have hb := F.2.1
  replace hl : lv_has ls 2 [(0, .ref (adr 2)), (1, .int w)] := hl
  refine lv_iload_n hx hb dX3_afterStart_0 rfl (lv_at hl 1 rfl) ?_
  refine lv_bipush (v := nI 7) hx hb dX3_afterStart_1 (by decide) ?_
  refine lv_icmp_lt (tgt := 8) hx hb dX3_afterStart_3 (by decide) (fun c_3 => absurd c_3 (hw)) (fun c_3 => ?_)
  refine lv_iload_n hx hb dX3_afterStart_6 rfl (lv_at hl 1 rfl) ?_
  exact gr_i F hr hlk hK hR dX3_afterStart_7 (rfl) (rfl)
set_option maxHeartbeats 4000000 in
set_option maxRecDepth 100000 in
/-- divide(kind, f, divisor) -/
theorem c_X3_divide (l : Launch) (G : gw_G) (A : Nat → Prop) (adr : Nat → Nat) (n : Nat) (S Y : Nat → Nat → Int32) (L : Int64) (x f : Nat) (v : Int32) (hxn : x < n) (hf : f < 4) : gm l yX3_divide cX3_divide 4 (some .int) (rmL 2) 0 0 A [.ref (adr 2), .ref (adr (nk x 0)), .int (nI f), .int v] (gW G A adr (ccel G adr n S Y L)) (gW G A adr (ccel G adr n (if v = 0 then sp_ar S (nI 3) else sp_set S x f (sp_get S x f / v)) Y L)) (some (.int (if v = 0 then nI 3 else -1))) := by
  refine gm_of (own := RX3) (by decide) rfl (Nat.le_of_ble_eq_true rfl) ?_
  intro p e s m below meth c ls F hml hr hlk hnm hK hR hl
  have hx := F.1
  have hb := F.2.1
  replace hl : lv_has ls 4 [(0, .ref (adr 2)), (1, .ref (adr (nk x 0))), (2, .int (nI f)), (3, .int v)] := hl
  refine lv_iload_n hx hb dX3_divide_0 rfl (lv_at hl 3 rfl) ?_
  refine lv_if_ne (tgt := 10) hx hb dX3_divide_1 (by decide) (fun c_1 => ?_) (fun c_1 => ?_)
  · refine lv_aload_n hx hb dX3_divide_10 rfl (lv_at hl 1 rfl) ?_
    refine lv_iload_n hx hb dX3_divide_11 rfl (lv_at hl 2 rfl) ?_
    refine lv_aload_n hx hb dX3_divide_12 rfl (lv_at hl 1 rfl) ?_
    refine lv_iload_n hx hb dX3_divide_13 rfl (lv_at hl 2 rfl) ?_
    refine gcVi (As := [.int (nI f)]) F hK hR hml cv_X3_129 (o := nk x 0) (ccel_k (by omega) (by decide)) rfl rfl (c_X2_valueOf l G A adr n S Y L x f (by omega) (by omega)) ⟨rfl, rfl⟩ ⟨Nat.le_of_ble_eq_true rfl, Nat.le_of_ble_eq_true rfl⟩ rfl rfl hl.1 (Nat.le_of_ble_eq_true rfl) dX3_divide_14 ⟨Nat.zero_le _, Nat.zero_le _⟩ (fun H locs hR => ?_)
    refine lv_iload_n hx hb dX3_divide_17 rfl (lv_at hl 3 rfl) ?_
    refine lv_idiv hx hb dX3_divide_18 (c_1) ?_
    refine gcVv (As := [.int (nI f), .int ((sp_get S x f) / v)]) F hK hR hml cv_X3_126 (o := nk x 0) (ccel_k (by omega) (by decide)) rfl rfl (c_X2_change l G A adr n S Y L x f ((sp_get S x f) / v) (by omega) (by omega)) ⟨rfl, rfl⟩ ⟨Nat.le_of_ble_eq_true rfl, Nat.le_of_ble_eq_true rfl⟩ rfl rfl hl.1 (Nat.le_of_ble_eq_true rfl) dX3_divide_19 ⟨Nat.zero_le _, Nat.zero_le _⟩ (fun H locs hR => ?_)
    refine lv_iconst (v := (-1)) hx hb dX3_divide_22 (by decide) ?_
    exact gr_i F hr hlk hK hR dX3_divide_23 (by repeat (first | rw [if_pos c_1] | rw [if_neg c_1] | rw [if_neg (not_not_intro c_1)])) (by repeat (first | rw [if_pos c_1] | rw [if_neg c_1] | rw [if_neg (not_not_intro c_1)]))
  · refine lv_aload_n hx hb dX3_divide_4 rfl (lv_at hl 0 rfl) ?_
    refine lv_iconst (v := nI 3) hx hb dX3_divide_5 (by decide) ?_
    refine gcVi (As := [.int (nI 3)]) F hK hR hml cv_X3_41 (o := 2) (rfl) rfl rfl (c_X3_raise l G A adr n S Y L (nI 3) (by decide)) ⟨rfl, rfl⟩ ⟨Nat.le_of_ble_eq_true rfl, Nat.le_of_ble_eq_true rfl⟩ rfl rfl hl.1 (Nat.le_of_ble_eq_true rfl) dX3_divide_6 ⟨Nat.zero_le _, Nat.zero_le _⟩ (fun H locs hR => ?_)
    exact gr_i F hr hlk hK hR dX3_divide_9 (by repeat (first | rw [if_pos c_1] | rw [if_neg c_1] | rw [if_neg (not_not_intro c_1)])) (by repeat (first | rw [if_pos c_1] | rw [if_neg c_1] | rw [if_neg (not_not_intro c_1)]))
set_option maxHeartbeats 4000000 in
set_option maxRecDepth 100000 in
/-- makeRow(kind, wanted) -/
theorem c_X3_makeRow (l : Launch) (G : gw_G) (A : Nat → Prop) (adr : Nat → Nat) (n : Nat) (S Y : Nat → Nat → Int32) (L : Int64) (x : Nat) (v : Int32) (hxn : x < n) : gm l yX3_makeRow cX3_makeRow 3 (some .int) (rmL 2) 0 0 A [.ref (adr 2), .ref (adr (nk x 0)), .int v] (gW G A adr (ccel G adr n S Y L)) (gW G A adr (ccel G adr n (sp_rowS S x v) Y L)) (some (.int (sp_rowR v))) := by
  refine gm_of (own := RX3) (by decide) rfl (Nat.le_of_ble_eq_true rfl) ?_
  intro p e s m below meth c ls F hml hr hlk hnm hK hR hl
  have hx := F.1
  have hb := F.2.1
  replace hl : lv_has ls 3 [(0, .ref (adr 2)), (1, .ref (adr (nk x 0))), (2, .int v)] := hl
  refine lv_iload_n hx hb dX3_makeRow_0 rfl (lv_at hl 2 rfl) ?_
  refine lv_if_ge (tgt := 11) hx hb dX3_makeRow_1 (by decide) (fun c_1 => ?_) (fun c_1 => ?_)
  · have n_1 := Int32.not_lt.mpr c_1
    refine lv_aload_n hx hb dX3_makeRow_11 rfl (lv_at hl 1 rfl) ?_
    refine lv_iload_n hx hb dX3_makeRow_12 rfl (lv_at hl 2 rfl) ?_
    refine gcVv (As := [.int v]) F hK hR hml cv_X3_164 (o := nk x 0) (ccel_k (by omega) (by decide)) rfl rfl (c_X2_makeRow l G A adr n S Y L x v (by omega) n_1) ⟨rfl, rfl⟩ ⟨Nat.le_of_ble_eq_true rfl, Nat.le_of_ble_eq_true rfl⟩ rfl rfl hl.1 (Nat.le_of_ble_eq_true rfl) dX3_makeRow_13 ⟨Nat.zero_le _, Nat.zero_le _⟩ (fun H locs hR => ?_)
    refine lv_iconst (v := (-1)) hx hb dX3_makeRow_16 (by decide) ?_
    exact gr_i F hr hlk hK hR dX3_makeRow_17 (by unfold sp_rowR; repeat (first | rw [if_pos c_1] | rw [if_neg c_1] | rw [if_neg (not_not_intro c_1)] | rw [if_pos n_1] | rw [if_neg n_1] | rw [if_neg (not_not_intro n_1)])) (rfl)
  · have n_1 := Int32.not_le.mp c_1
    refine lv_aload_n hx hb dX3_makeRow_4 rfl (lv_at hl 0 rfl) ?_
    refine lv_bipush (v := nI 6) hx hb dX3_makeRow_5 (by decide) ?_
    refine gcVi (As := [.int (nI 6)]) F hK hR hml cv_X3_41 (o := 2) (rfl) rfl rfl (c_X3_raise l G A adr n S Y L (nI 6) (by decide)) ⟨rfl, rfl⟩ ⟨Nat.le_of_ble_eq_true rfl, Nat.le_of_ble_eq_true rfl⟩ rfl rfl hl.1 (Nat.le_of_ble_eq_true rfl) dX3_makeRow_7 ⟨Nat.zero_le _, Nat.zero_le _⟩ (fun H locs hR => ?_)
    exact gr_i F hr hlk hK hR dX3_makeRow_10 (by unfold sp_rowR; repeat (first | rw [if_pos c_1] | rw [if_neg c_1] | rw [if_neg (not_not_intro c_1)] | rw [if_pos n_1] | rw [if_neg n_1] | rw [if_neg (not_not_intro n_1)])) (by rw [sp_rowS, if_pos n_1])
set_option maxHeartbeats 4000000 in
set_option maxRecDepth 100000 in
/-- putItem(kind, i, value) -/
theorem c_X3_putItem (l : Launch) (G : gw_G) (A : Nat → Prop) (adr : Nat → Nat) (n : Nat) (S Y : Nat → Nat → Int32) (L : Int64) (x : Nat) (i v : Int32) (hxn : x < n) (hrow : ∀ x, x < 12 → ∃ r, r ≤ 21 ∧ S 8 x = nI r) (hn12 : n ≤ 12) : gm l yX3_putItem cX3_putItem 4 (some .int) (rmL 1) 0 0 A [.ref (adr 2), .ref (adr (nk x 0)), .int i, .int v] (gW G A adr (ccel G adr n S Y L)) (gW G A adr (ccel G adr n (io_in S x i v) Y L)) (some (.int (io_R S x i))) := by
  refine gm_of (own := RX3) (by decide) rfl (Nat.le_of_ble_eq_true rfl) ?_
  intro p e s m below meth c ls F hml hr hlk hnm hK hR hl
  have hx := F.1
  have hb := F.2.1
  replace hl : lv_has ls 4 [(0, .ref (adr 2)), (1, .ref (adr (nk x 0))), (2, .int i), (3, .int v)] := hl
  refine lv_aload_n hx hb dX3_putItem_0 rfl (lv_at hl 1 rfl) ?_
  refine lv_iload_n hx hb dX3_putItem_1 rfl (lv_at hl 2 rfl) ?_
  refine gcVi (As := [.int i]) F hK hR hml cv_X3_167 (o := nk x 0) (ccel_k (by omega) (by decide)) rfl rfl (c_X2_hasItem l G A adr n S Y L x i (by omega)) ⟨rfl, rfl⟩ ⟨Nat.le_of_ble_eq_true rfl, Nat.le_of_ble_eq_true rfl⟩ rfl rfl hl.1 (Nat.le_of_ble_eq_true rfl) dX3_putItem_2 ⟨Nat.zero_le _, Nat.zero_le _⟩ (fun H locs hR => ?_)
  refine lv_if_ne (tgt := 26) hx hb dX3_putItem_5 (by decide) (fun c_5 => ?_) (fun c_5 => ?_)
  · obtain ⟨r, hr1, hr2⟩ := hrow x (by omega)
    obtain ⟨⟨j, hj, rfl⟩, g1, g2, g3⟩ := hasI_yes hr2 hr1 c_5
    refine lv_aload_n hx hb dX3_putItem_26 rfl (lv_at hl 1 rfl) ?_
    refine kg_8 F hK hR (by omega) fl_X3_173 dX3_putItem_27 ?_
    refine lv_iload_n hx hb dX3_putItem_30 rfl (lv_at hl 2 rfl) ?_
    refine lv_iload_n hx hb dX3_putItem_31 rfl (lv_at hl 3 rfl) ?_
    refine rw_st F hK hR (by omega) (by omega) dX3_putItem_32 (fun H locs hR => ?_)
    refine lv_iconst (v := (-1)) hx hb dX3_putItem_33 (by decide) ?_
    exact gr_i F hr hlk hK hR dX3_putItem_34 (by rw [io_R, if_neg g1, if_neg g2, if_neg g3]) (by rw [io_in, if_neg g1, if_neg g2, if_neg g3, nI_clamp (by omega)])
  · refine lv_aload_n hx hb dX3_putItem_8 rfl (lv_at hl 0 rfl) ?_
    refine lv_aload_n hx hb dX3_putItem_9 rfl (lv_at hl 1 rfl) ?_
    refine kg_9 F hK hR (by omega) fl_X3_170 dX3_putItem_10 ?_
    refine lv_iconst (v := (-1)) hx hb dX3_putItem_13 (by decide) ?_
    refine lv_icmp_ne (tgt := 21) hx hb dX3_putItem_14 (by decide) (fun c_14 => ?_) (fun c_14 => ?_)
    · refine lv_iconst (v := nI 5) hx hb dX3_putItem_21 (by decide) ?_
      refine gcVi (As := [.int (nI 5)]) F hK hR hml cv_X3_41 (o := 2) (rfl) rfl rfl (c_X3_raise l G A adr n S Y L (nI 5) (by decide)) ⟨rfl, rfl⟩ ⟨Nat.le_of_ble_eq_true rfl, Nat.le_of_ble_eq_true rfl⟩ rfl rfl hl.1 (Nat.le_of_ble_eq_true rfl) dX3_putItem_22 ⟨Nat.zero_le _, Nat.zero_le _⟩ (fun H locs hR => ?_)
      exact gr_i F hr hlk hK hR dX3_putItem_25 (((hasI_no c_5 (fun q => c_14 (items_m1.mpr q))).1).symm) (by rw [((hasI_no c_5 (fun q => c_14 (items_m1.mpr q))).2 v).1])
    · refine lv_iconst (v := nI 4) hx hb dX3_putItem_17 (by decide) ?_
      refine lv_goto (tgt := 22) hx hb dX3_putItem_18 (by decide) ?_
      refine gcVi (As := [.int (nI 4)]) F hK hR hml cv_X3_41 (o := 2) (rfl) rfl rfl (c_X3_raise l G A adr n S Y L (nI 4) (by decide)) ⟨rfl, rfl⟩ ⟨Nat.le_of_ble_eq_true rfl, Nat.le_of_ble_eq_true rfl⟩ rfl rfl hl.1 (Nat.le_of_ble_eq_true rfl) dX3_putItem_22 ⟨Nat.zero_le _, Nat.zero_le _⟩ (fun H locs hR => ?_)
      exact gr_i F hr hlk hK hR dX3_putItem_25 (by rw [io_R, if_pos (items_m1.mp c_14)]) (by rw [io_in, if_pos (items_m1.mp c_14)])
set_option maxHeartbeats 4000000 in
set_option maxRecDepth 100000 in
/-- takeItem(kind, f, i) -/
theorem c_X3_takeItem (l : Launch) (G : gw_G) (A : Nat → Prop) (adr : Nat → Nat) (n : Nat) (S Y : Nat → Nat → Int32) (L : Int64) (x f : Nat) (i : Int32) (hxn : x < n) (hf : f < 4) (hrow : ∀ x, x < 12 → ∃ r, r ≤ 21 ∧ S 8 x = nI r) (hn12 : n ≤ 12) : gm l yX3_takeItem cX3_takeItem 4 (some .int) (rmL 2) 0 0 A [.ref (adr 2), .ref (adr (nk x 0)), .int (nI f), .int i] (gW G A adr (ccel G adr n S Y L)) (gW G A adr (ccel G adr n (io_out S x f i) Y L)) (some (.int (io_R S x i))) := by
  refine gm_of (own := RX3) (by decide) rfl (Nat.le_of_ble_eq_true rfl) ?_
  intro p e s m below meth c ls F hml hr hlk hnm hK hR hl
  have hx := F.1
  have hb := F.2.1
  replace hl : lv_has ls 4 [(0, .ref (adr 2)), (1, .ref (adr (nk x 0))), (2, .int (nI f)), (3, .int i)] := hl
  refine lv_aload_n hx hb dX3_takeItem_0 rfl (lv_at hl 1 rfl) ?_
  refine lv_iload_n hx hb dX3_takeItem_1 rfl (lv_at hl 3 rfl) ?_
  refine gcVi (As := [.int i]) F hK hR hml cv_X3_167 (o := nk x 0) (ccel_k (by omega) (by decide)) rfl rfl (c_X2_hasItem l G A adr n S Y L x i (by omega)) ⟨rfl, rfl⟩ ⟨Nat.le_of_ble_eq_true rfl, Nat.le_of_ble_eq_true rfl⟩ rfl rfl hl.1 (Nat.le_of_ble_eq_true rfl) dX3_takeItem_2 ⟨Nat.zero_le _, Nat.zero_le _⟩ (fun H locs hR => ?_)
  refine lv_if_ne (tgt := 26) hx hb dX3_takeItem_5 (by decide) (fun c_5 => ?_) (fun c_5 => ?_)
  · obtain ⟨r, hr1, hr2⟩ := hrow x (by omega)
    obtain ⟨⟨j, hj, rfl⟩, g1, g2, g3⟩ := hasI_yes hr2 hr1 c_5
    refine lv_aload_n hx hb dX3_takeItem_26 rfl (lv_at hl 1 rfl) ?_
    refine lv_iload_n hx hb dX3_takeItem_27 rfl (lv_at hl 2 rfl) ?_
    refine lv_aload_n hx hb dX3_takeItem_28 rfl (lv_at hl 1 rfl) ?_
    refine kg_8 F hK hR (by omega) fl_X3_173 dX3_takeItem_29 ?_
    refine lv_iload_n hx hb dX3_takeItem_32 rfl (lv_at hl 3 rfl) ?_
    refine rw_ld F hK hR (by omega) (by omega) dX3_takeItem_33 ?_
    refine gcVv (As := [.int (nI f), .int (S 9 (20 * x + j))]) F hK hR hml cv_X3_126 (o := nk x 0) (ccel_k (by omega) (by decide)) rfl rfl (c_X2_change l G A adr n S Y L x f (S 9 (20 * x + j)) (by omega) (by omega)) ⟨rfl, rfl⟩ ⟨Nat.le_of_ble_eq_true rfl, Nat.le_of_ble_eq_true rfl⟩ rfl rfl hl.1 (Nat.le_of_ble_eq_true rfl) dX3_takeItem_34 ⟨Nat.zero_le _, Nat.zero_le _⟩ (fun H locs hR => ?_)
    refine lv_iconst (v := (-1)) hx hb dX3_takeItem_37 (by decide) ?_
    exact gr_i F hr hlk hK hR dX3_takeItem_38 (by rw [io_R, if_neg g1, if_neg g2, if_neg g3]) (by rw [io_out, if_neg g1, if_neg g2, if_neg g3, nI_clamp (by omega)])
  · refine lv_aload_n hx hb dX3_takeItem_8 rfl (lv_at hl 0 rfl) ?_
    refine lv_aload_n hx hb dX3_takeItem_9 rfl (lv_at hl 1 rfl) ?_
    refine kg_9 F hK hR (by omega) fl_X3_170 dX3_takeItem_10 ?_
    refine lv_iconst (v := (-1)) hx hb dX3_takeItem_13 (by decide) ?_
    refine lv_icmp_ne (tgt := 21) hx hb dX3_takeItem_14 (by decide) (fun c_14 => ?_) (fun c_14 => ?_)
    · refine lv_iconst (v := nI 5) hx hb dX3_takeItem_21 (by decide) ?_
      refine gcVi (As := [.int (nI 5)]) F hK hR hml cv_X3_41 (o := 2) (rfl) rfl rfl (c_X3_raise l G A adr n S Y L (nI 5) (by decide)) ⟨rfl, rfl⟩ ⟨Nat.le_of_ble_eq_true rfl, Nat.le_of_ble_eq_true rfl⟩ rfl rfl hl.1 (Nat.le_of_ble_eq_true rfl) dX3_takeItem_22 ⟨Nat.zero_le _, Nat.zero_le _⟩ (fun H locs hR => ?_)
      exact gr_i F hr hlk hK hR dX3_takeItem_25 (((hasI_no c_5 (fun q => c_14 (items_m1.mpr q))).1).symm) (by rw [((hasI_no c_5 (fun q => c_14 (items_m1.mpr q))).2 0).2 f])
    · refine lv_iconst (v := nI 4) hx hb dX3_takeItem_17 (by decide) ?_
      refine lv_goto (tgt := 22) hx hb dX3_takeItem_18 (by decide) ?_
      refine gcVi (As := [.int (nI 4)]) F hK hR hml cv_X3_41 (o := 2) (rfl) rfl rfl (c_X3_raise l G A adr n S Y L (nI 4) (by decide)) ⟨rfl, rfl⟩ ⟨Nat.le_of_ble_eq_true rfl, Nat.le_of_ble_eq_true rfl⟩ rfl rfl hl.1 (Nat.le_of_ble_eq_true rfl) dX3_takeItem_22 ⟨Nat.zero_le _, Nat.zero_le _⟩ (fun H locs hR => ?_)
      exact gr_i F hr hlk hK hR dX3_takeItem_25 (by rw [io_R, if_pos (items_m1.mp c_14)]) (by rw [io_out, if_pos (items_m1.mp c_14)])
def gdI (a : Nat → Int32) (mm i pl : Nat) : Int32 := if a (40 * mm + 4 * i) = nI 11 then (if lgI a mm i < nI pl then nI 0 else nI 1) else nI 0
def ctI (a : Nat → Int32) (p : Nat) (w : Int32) : Int32 := if a (p + 2) = -1 then (if w = nI 10 then nI 0 else nI 1) else if w = a (p + 2) then nI 1 else nI 0
/-- where a throw of w at the place pl goes on: the last act that is ended, or -1 -/
def eoc (a : Nat → Int32) (mm pl : Nat) (w : Int32) : Nat → Int32
  | 0 => -1
  | k + 1 => if gdI a mm k pl = 0 then eoc a mm pl w k else if ctI a (40 * mm + 4 * k) w = 0 then eoc a mm pl w k else lgI a mm k
set_option maxHeartbeats 4000000 in
set_option maxRecDepth 100000 in
/-- Act.guards(place) -/
theorem c_X0_guards (l : Launch) (G : gw_G) (A : Nat → Prop) (adr : Nat → Nat) (n : Nat) (S Y : Nat → Nat → Int32) (L : Int64) (x q i ac pl : Nat) (hxn : x < n) (hq : q < 4) (hac : S 10 (4 * x + q) = nI ac) (hi : i < ac) (h10 : ac ≤ 10) : gm l yX0_guards cX0_guards 2 (some .boolean) (rmL 0) 0 0 A [.ref (adr (nk x (14 + 10 * q + i))), .int (nI pl)] (gW G A adr (ccel G adr n S Y L)) (gW G A adr (ccel G adr n S Y L)) (some (.int (gdI (S 11) (4 * x + q) i pl))) := by
  refine gm_of (own := RX0) (by decide) rfl (Nat.le_of_ble_eq_true rfl) ?_
  intro p e s m below meth c ls F hml hr hlk hnm hK hR hl
  have hx := F.1
  have hb := F.2.1
  replace hl : lv_has ls 2 [(0, .ref (adr (nk x (14 + 10 * q + i)))), (1, .int (nI pl))] := hl
  refine lv_aload_n hx hb dX0_guards_0 rfl (lv_at hl 0 rfl) ?_
  refine ag_0 F hK hR (by omega) (by omega) (hac) (by omega) (by omega) fl_X0_9 dX0_guards_1 ?_
  refine lv_bipush (v := nI 11) hx hb dX0_guards_4 (by decide) ?_
  refine lv_icmp_ne (tgt := 21) hx hb dX0_guards_6 (by decide) (fun c_6 => ?_) (fun c_6 => ?_)
  · refine lv_iconst (v := nI 0) hx hb dX0_guards_21 (by decide) ?_
    exact gr_z F hr hlk hK hR dX0_guards_22 (by decide) (by unfold gdI; repeat (first | rw [if_pos c_6] | rw [if_neg c_6] | rw [if_neg (not_not_intro c_6)])) (rfl)
  · refine lv_iload_n hx hb dX0_guards_9 rfl (lv_at hl 1 rfl) ?_
    refine lv_aload_n hx hb dX0_guards_10 rfl (lv_at hl 0 rfl) ?_
    refine ag_5 F hK hR (by omega) (by omega) (hac) (by omega) (by omega) fl_X0_28 dX0_guards_11 ?_
    refine lv_icmp_gt (tgt := 21) hx hb dX0_guards_14 (by decide) (fun c_14 => ?_) (fun c_14 => ?_)
    · have n_14 := Int32.not_le.mpr c_14
      refine lv_iconst (v := nI 0) hx hb dX0_guards_21 (by decide) ?_
      exact gr_z F hr hlk hK hR dX0_guards_22 (by decide) (by unfold gdI; repeat (first | rw [if_pos c_6] | rw [if_neg c_6] | rw [if_neg (not_not_intro c_6)] | rw [if_pos c_14] | rw [if_neg c_14] | rw [if_neg (not_not_intro c_14)] | rw [if_pos n_14] | rw [if_neg n_14] | rw [if_neg (not_not_intro n_14)])) (rfl)
    · have n_14 := Int32.not_lt.mp c_14
      refine lv_iconst (v := nI 1) hx hb dX0_guards_17 (by decide) ?_
      refine lv_goto (tgt := 22) hx hb dX0_guards_18 (by decide) ?_
      exact gr_z F hr hlk hK hR dX0_guards_22 (by decide) (by unfold gdI; repeat (first | rw [if_pos c_6] | rw [if_neg c_6] | rw [if_neg (not_not_intro c_6)] | rw [if_pos c_14] | rw [if_neg c_14] | rw [if_neg (not_not_intro c_14)] | rw [if_pos n_14] | rw [if_neg n_14] | rw [if_neg (not_not_intro n_14)])) (rfl)
set_option maxHeartbeats 4000000 in
set_option maxRecDepth 100000 in
/-- Act.catches(thrown) -/
theorem c_X0_catches (l : Launch) (G : gw_G) (A : Nat → Prop) (adr : Nat → Nat) (n : Nat) (S Y : Nat → Nat → Int32) (L : Int64) (x q i ac : Nat) (w : Int32) (hxn : x < n) (hq : q < 4) (hac : S 10 (4 * x + q) = nI ac) (hi : i < ac) (h10 : ac ≤ 10) : gm l yX0_catches cX0_catches 2 (some .boolean) (rmL 0) 0 0 A [.ref (adr (nk x (14 + 10 * q + i))), .int w] (gW G A adr (ccel G adr n S Y L)) (gW G A adr (ccel G adr n S Y L)) (some (.int (ctI (S 11) (40 * (4 * x + q) + 4 * i) w))) := by
  refine gm_of (own := RX0) (by decide) rfl (Nat.le_of_ble_eq_true rfl) ?_
  intro p e s m below meth c ls F hml hr hlk hnm hK hR hl
  have hx := F.1
  have hb := F.2.1
  replace hl : lv_has ls 2 [(0, .ref (adr (nk x (14 + 10 * q + i)))), (1, .int w)] := hl
  refine lv_aload_n hx hb dX0_catches_0 rfl (lv_at hl 0 rfl) ?_
  refine ag_3 F hK hR (by omega) (by omega) (hac) (by omega) (by omega) fl_X0_22 dX0_catches_1 ?_
  refine lv_iconst (v := (-1)) hx hb dX0_catches_4 (by decide) ?_
  refine lv_icmp_ne (tgt := 22) hx hb dX0_catches_5 (by decide) (fun c_5 => ?_) (fun c_5 => ?_)
  · refine lv_iload_n hx hb dX0_catches_22 rfl (lv_at hl 1 rfl) ?_
    refine lv_aload_n hx hb dX0_catches_23 rfl (lv_at hl 0 rfl) ?_
    refine ag_3 F hK hR (by omega) (by omega) (hac) (by omega) (by omega) fl_X0_22 dX0_catches_24 ?_
    refine lv_icmp_ne (tgt := 34) hx hb dX0_catches_27 (by decide) (fun c_27 => ?_) (fun c_27 => ?_)
    · refine lv_iconst (v := nI 0) hx hb dX0_catches_34 (by decide) ?_
      exact gr_z F hr hlk hK hR dX0_catches_35 (by decide) (by unfold ctI; repeat (first | rw [if_pos c_5] | rw [if_neg c_5] | rw [if_neg (not_not_intro c_5)] | rw [if_pos c_27] | rw [if_neg c_27] | rw [if_neg (not_not_intro c_27)])) (rfl)
    · refine lv_iconst (v := nI 1) hx hb dX0_catches_30 (by decide) ?_
      refine lv_goto (tgt := 35) hx hb dX0_catches_31 (by decide) ?_
      exact gr_z F hr hlk hK hR dX0_catches_35 (by decide) (by unfold ctI; repeat (first | rw [if_pos c_5] | rw [if_neg c_5] | rw [if_neg (not_not_intro c_5)] | rw [if_pos c_27] | rw [if_neg c_27] | rw [if_neg (not_not_intro c_27)])) (rfl)
  · refine lv_iload_n hx hb dX0_catches_8 rfl (lv_at hl 1 rfl) ?_
    refine lv_bipush (v := nI 10) hx hb dX0_catches_9 (by decide) ?_
    refine lv_icmp_eq (tgt := 18) hx hb dX0_catches_11 (by decide) (fun c_11 => ?_) (fun c_11 => ?_)
    · refine lv_iconst (v := nI 0) hx hb dX0_catches_18 (by decide) ?_
      refine lv_goto (tgt := 35) hx hb dX0_catches_19 (by decide) ?_
      exact gr_z F hr hlk hK hR dX0_catches_35 (by decide) (by unfold ctI; repeat (first | rw [if_pos c_5] | rw [if_neg c_5] | rw [if_neg (not_not_intro c_5)] | rw [if_pos c_11] | rw [if_neg c_11] | rw [if_neg (not_not_intro c_11)])) (rfl)
    · refine lv_iconst (v := nI 1) hx hb dX0_catches_14 (by decide) ?_
      refine lv_goto (tgt := 35) hx hb dX0_catches_15 (by decide) ?_
      exact gr_z F hr hlk hK hR dX0_catches_35 (by decide) (by unfold ctI; repeat (first | rw [if_pos c_5] | rw [if_neg c_5] | rw [if_neg (not_not_intro c_5)] | rw [if_pos c_11] | rw [if_neg c_11] | rw [if_neg (not_not_intro c_11)])) (rfl)
set_option maxHeartbeats 4000000 in
set_option maxRecDepth 100000 in
/-- Act.wants() of ADD, PUT, DIV -/
theorem c_X0_wants1 (l : Launch) (G : gw_G) (A : Nat → Prop) (adr : Nat → Nat) (n : Nat) (S Y : Nat → Nat → Int32) (L : Int64) (x q i ac so z g : Nat) (hxn : x < n) (hq : q < 4) (hac : S 10 (4 * x + q) = nI ac) (hi : i < ac) (h10 : ac ≤ 10) (hso : S 11 (40 * (4 * x + q) + 4 * i) = nI so) (h1 : 1 ≤ so) (h3 : so ≤ 3) (hoth : oth (S 11) x (40 * (4 * x + q) + 4 * i) = z) (hz : z < n) (hg3 : S 11 (40 * (4 * x + q) + 4 * i + 3) = nI g) (hg : g < 4) : gm l yX0_wants cX0_wants 1 (some .boolean) (rmL 2) 0 0 A [.ref (adr (nk x (14 + 10 * q + i)))] (gW G A adr (ccel G adr n S Y L)) (gW G A adr (ccel G adr n S Y L)) (some (.int (if S 7 (4 * z + g) = 0 then nI 1 else nI 0))) := by
  refine gm_of (own := RX0) (by decide) rfl (Nat.le_of_ble_eq_true rfl) ?_
  intro p e s m below meth c ls F hml hr hlk hnm hK hR hl
  have hx := F.1
  have hb := F.2.1
  replace hl : lv_has ls 1 [(0, .ref (adr (nk x (14 + 10 * q + i))))] := hl
  refine lv_aload_n hx hb dX0_wants_0 rfl (lv_at hl 0 rfl) ?_
  refine ag_0 F hK hR (by omega) (by omega) (hac) (by omega) (by omega) fl_X0_9 dX0_wants_1 ?_
  refine lv_eq (hso) ?_
  rcases (by omega : so = 1 ∨ so = 2 ∨ so = 3) with rfl | rfl | rfl
  · refine lv_tableIn (x := nI 1) (tgt := 52) hx hb dX0_wants_4 (by decide) (by decide) (off := 48) (by decide) (by decide) ?_
    refine lv_aload_n hx hb dX0_wants_52 rfl (lv_at hl 0 rfl) ?_
    refine ag_1 F hK hR (by omega) (by omega) (hac) (by omega) (by omega) fl_X0_15 dX0_wants_53 ?_
    rw [hoth]
    refine lv_aload_n hx hb dX0_wants_56 rfl (lv_at hl 0 rfl) ?_
    refine ag_4 F hK hR (by omega) (by omega) (hac) (by omega) (by omega) fl_X0_25 dX0_wants_57 ?_
    refine lv_eq (hg3) ?_
    refine gcVi (As := [.int (nI g)]) F hK hR hml cv_X0_42 (o := nk z 0) (ccel_k (by omega) (by decide)) rfl rfl (c_X2_isConstant l G A adr n S Y L z g (by omega) (by omega)) ⟨rfl, rfl⟩ ⟨Nat.le_of_ble_eq_true rfl, Nat.le_of_ble_eq_true rfl⟩ rfl rfl hl.1 (Nat.le_of_ble_eq_true rfl) dX0_wants_60 ⟨Nat.zero_le _, Nat.zero_le _⟩ (fun H locs hR => ?_)
    refine lv_if_ne (tgt := 70) hx hb dX0_wants_63 (by decide) (fun c_63 => ?_) (fun c_63 => ?_)
    · refine lv_iconst (v := nI 0) hx hb dX0_wants_70 (by decide) ?_
      exact gr_z F hr hlk hK hR dX0_wants_71 (by decide) (by rw [if_neg (fun q => c_63 (isK_z.mpr q))]) (rfl)
    · refine lv_iconst (v := nI 1) hx hb dX0_wants_66 (by decide) ?_
      refine lv_goto (tgt := 71) hx hb dX0_wants_67 (by decide) ?_
      exact gr_z F hr hlk hK hR dX0_wants_71 (by decide) (by rw [if_pos (isK_z.mp c_63)]) (rfl)
  · refine lv_tableIn (x := nI 2) (tgt := 52) hx hb dX0_wants_4 (by decide) (by decide) (off := 48) (by decide) (by decide) ?_
    refine lv_aload_n hx hb dX0_wants_52 rfl (lv_at hl 0 rfl) ?_
    refine ag_1 F hK hR (by omega) (by omega) (hac) (by omega) (by omega) fl_X0_15 dX0_wants_53 ?_
    rw [hoth]
    refine lv_aload_n hx hb dX0_wants_56 rfl (lv_at hl 0 rfl) ?_
    refine ag_4 F hK hR (by omega) (by omega) (hac) (by omega) (by omega) fl_X0_25 dX0_wants_57 ?_
    refine lv_eq (hg3) ?_
    refine gcVi (As := [.int (nI g)]) F hK hR hml cv_X0_42 (o := nk z 0) (ccel_k (by omega) (by decide)) rfl rfl (c_X2_isConstant l G A adr n S Y L z g (by omega) (by omega)) ⟨rfl, rfl⟩ ⟨Nat.le_of_ble_eq_true rfl, Nat.le_of_ble_eq_true rfl⟩ rfl rfl hl.1 (Nat.le_of_ble_eq_true rfl) dX0_wants_60 ⟨Nat.zero_le _, Nat.zero_le _⟩ (fun H locs hR => ?_)
    refine lv_if_ne (tgt := 70) hx hb dX0_wants_63 (by decide) (fun c_63 => ?_) (fun c_63 => ?_)
    · refine lv_iconst (v := nI 0) hx hb dX0_wants_70 (by decide) ?_
      exact gr_z F hr hlk hK hR dX0_wants_71 (by decide) (by rw [if_neg (fun q => c_63 (isK_z.mpr q))]) (rfl)
    · refine lv_iconst (v := nI 1) hx hb dX0_wants_66 (by decide) ?_
      refine lv_goto (tgt := 71) hx hb dX0_wants_67 (by decide) ?_
      exact gr_z F hr hlk hK hR dX0_wants_71 (by decide) (by rw [if_pos (isK_z.mp c_63)]) (rfl)
  · refine lv_tableIn (x := nI 3) (tgt := 52) hx hb dX0_wants_4 (by decide) (by decide) (off := 48) (by decide) (by decide) ?_
    refine lv_aload_n hx hb dX0_wants_52 rfl (lv_at hl 0 rfl) ?_
    refine ag_1 F hK hR (by omega) (by omega) (hac) (by omega) (by omega) fl_X0_15 dX0_wants_53 ?_
    rw [hoth]
    refine lv_aload_n hx hb dX0_wants_56 rfl (lv_at hl 0 rfl) ?_
    refine ag_4 F hK hR (by omega) (by omega) (hac) (by omega) (by omega) fl_X0_25 dX0_wants_57 ?_
    refine lv_eq (hg3) ?_
    refine gcVi (As := [.int (nI g)]) F hK hR hml cv_X0_42 (o := nk z 0) (ccel_k (by omega) (by decide)) rfl rfl (c_X2_isConstant l G A adr n S Y L z g (by omega) (by omega)) ⟨rfl, rfl⟩ ⟨Nat.le_of_ble_eq_true rfl, Nat.le_of_ble_eq_true rfl⟩ rfl rfl hl.1 (Nat.le_of_ble_eq_true rfl) dX0_wants_60 ⟨Nat.zero_le _, Nat.zero_le _⟩ (fun H locs hR => ?_)
    refine lv_if_ne (tgt := 70) hx hb dX0_wants_63 (by decide) (fun c_63 => ?_) (fun c_63 => ?_)
    · refine lv_iconst (v := nI 0) hx hb dX0_wants_70 (by decide) ?_
      exact gr_z F hr hlk hK hR dX0_wants_71 (by decide) (by rw [if_neg (fun q => c_63 (isK_z.mpr q))]) (rfl)
    · refine lv_iconst (v := nI 1) hx hb dX0_wants_66 (by decide) ?_
      refine lv_goto (tgt := 71) hx hb dX0_wants_67 (by decide) ?_
      exact gr_z F hr hlk hK hR dX0_wants_71 (by decide) (by rw [if_pos (isK_z.mp c_63)]) (rfl)
set_option maxHeartbeats 4000000 in
set_option maxRecDepth 100000 in
/-- Act.wants() of CALL, MAKE -/
theorem c_X0_wants7 (l : Launch) (G : gw_G) (A : Nat → Prop) (adr : Nat → Nat) (n : Nat) (S Y : Nat → Nat → Int32) (L : Int64) (x q i ac so : Nat) (hxn : x < n) (hq : q < 4) (hac : S 10 (4 * x + q) = nI ac) (hi : i < ac) (h10 : ac ≤ 10) (hso : S 11 (40 * (4 * x + q) + 4 * i) = nI so) (h7 : so = 7 ∨ so = 8) : gm l yX0_wants cX0_wants 1 (some .boolean) (rmL 2) 0 0 A [.ref (adr (nk x (14 + 10 * q + i)))] (gW G A adr (ccel G adr n S Y L)) (gW G A adr (ccel G adr n S Y L)) (some (.int (nI 1))) := by
  refine gm_of (own := RX0) (by decide) rfl (Nat.le_of_ble_eq_true rfl) ?_
  intro p e s m below meth c ls F hml hr hlk hnm hK hR hl
  have hx := F.1
  have hb := F.2.1
  replace hl : lv_has ls 1 [(0, .ref (adr (nk x (14 + 10 * q + i))))] := hl
  refine lv_aload_n hx hb dX0_wants_0 rfl (lv_at hl 0 rfl) ?_
  refine ag_0 F hK hR (by omega) (by omega) (hac) (by omega) (by omega) fl_X0_9 dX0_wants_1 ?_
  refine lv_eq (hso) ?_
  rcases (by omega : so = 7 ∨ so = 8) with rfl | rfl
  · refine lv_tableIn (x := nI 7) (tgt := 72) hx hb dX0_wants_4 (by decide) (by decide) (off := 68) (by decide) (by decide) ?_
    refine lv_iconst (v := nI 1) hx hb dX0_wants_72 (by decide) ?_
    exact gr_z F hr hlk hK hR dX0_wants_73 (by decide) (rfl) (rfl)
  · refine lv_tableIn (x := nI 8) (tgt := 72) hx hb dX0_wants_4 (by decide) (by decide) (off := 68) (by decide) (by decide) ?_
    refine lv_iconst (v := nI 1) hx hb dX0_wants_72 (by decide) ?_
    exact gr_z F hr hlk hK hR dX0_wants_73 (by decide) (rfl) (rfl)
theorem so_w0 {so : Nat} (h12 : so ≤ 12) (h1 : ¬ (1 ≤ so ∧ so ≤ 3)) (h7 : so ≠ 7) (h8 : so ≠ 8) : so = 0 ∨ so = 4 ∨ so = 5 ∨ so = 6 ∨ so = 9 ∨ so = 10 ∨ so = 11 ∨ so = 12 := by omega
set_option maxHeartbeats 4000000 in
set_option maxRecDepth 100000 in
/-- Act.wants() of the others -/
theorem c_X0_wants0 (l : Launch) (G : gw_G) (A : Nat → Prop) (adr : Nat → Nat) (n : Nat) (S Y : Nat → Nat → Int32) (L : Int64) (x q i ac so : Nat) (hxn : x < n) (hq : q < 4) (hac : S 10 (4 * x + q) = nI ac) (hi : i < ac) (h10 : ac ≤ 10) (hso : S 11 (40 * (4 * x + q) + 4 * i) = nI so) (h12 : so ≤ 12) (h1 : ¬ (1 ≤ so ∧ so ≤ 3)) (h7 : so ≠ 7) (h8 : so ≠ 8) : gm l yX0_wants cX0_wants 1 (some .boolean) (rmL 2) 0 0 A [.ref (adr (nk x (14 + 10 * q + i)))] (gW G A adr (ccel G adr n S Y L)) (gW G A adr (ccel G adr n S Y L)) (some (.int (nI 0))) := by
  refine gm_of (own := RX0) (by decide) rfl (Nat.le_of_ble_eq_true rfl) ?_
  intro p e s m below meth c ls F hml hr hlk hnm hK hR hl
  have hx := F.1
  have hb := F.2.1
  replace hl : lv_has ls 1 [(0, .ref (adr (nk x (14 + 10 * q + i))))] := hl
  refine lv_aload_n hx hb dX0_wants_0 rfl (lv_at hl 0 rfl) ?_
  refine ag_0 F hK hR (by omega) (by omega) (hac) (by omega) (by omega) fl_X0_9 dX0_wants_1 ?_
  refine lv_eq (hso) ?_
  rcases (so_w0 h12 h1 h7 h8 : so = 0 ∨ so = 4 ∨ so = 5 ∨ so = 6 ∨ so = 9 ∨ so = 10 ∨ so = 11 ∨ so = 12) with rfl | rfl | rfl | rfl | rfl | rfl | rfl | rfl
  · refine lv_tableOut (x := nI 0) (tgt := 74) hx hb dX0_wants_4 (by decide) (by decide) ?_
    refine lv_iconst (v := nI 0) hx hb dX0_wants_74 (by decide) ?_
    exact gr_z F hr hlk hK hR dX0_wants_75 (by decide) (rfl) (rfl)
  · refine lv_tableIn (x := nI 4) (tgt := 74) hx hb dX0_wants_4 (by decide) (by decide) (off := 70) (by decide) (by decide) ?_
    refine lv_iconst (v := nI 0) hx hb dX0_wants_74 (by decide) ?_
    exact gr_z F hr hlk hK hR dX0_wants_75 (by decide) (rfl) (rfl)
  · refine lv_tableIn (x := nI 5) (tgt := 74) hx hb dX0_wants_4 (by decide) (by decide) (off := 70) (by decide) (by decide) ?_
    refine lv_iconst (v := nI 0) hx hb dX0_wants_74 (by decide) ?_
    exact gr_z F hr hlk hK hR dX0_wants_75 (by decide) (rfl) (rfl)
  · refine lv_tableIn (x := nI 6) (tgt := 74) hx hb dX0_wants_4 (by decide) (by decide) (off := 70) (by decide) (by decide) ?_
    refine lv_iconst (v := nI 0) hx hb dX0_wants_74 (by decide) ?_
    exact gr_z F hr hlk hK hR dX0_wants_75 (by decide) (rfl) (rfl)
  · refine lv_tableOut (x := nI 9) (tgt := 74) hx hb dX0_wants_4 (by decide) (by decide) ?_
    refine lv_iconst (v := nI 0) hx hb dX0_wants_74 (by decide) ?_
    exact gr_z F hr hlk hK hR dX0_wants_75 (by decide) (rfl) (rfl)
  · refine lv_tableOut (x := nI 10) (tgt := 74) hx hb dX0_wants_4 (by decide) (by decide) ?_
    refine lv_iconst (v := nI 0) hx hb dX0_wants_74 (by decide) ?_
    exact gr_z F hr hlk hK hR dX0_wants_75 (by decide) (rfl) (rfl)
  · refine lv_tableOut (x := nI 11) (tgt := 74) hx hb dX0_wants_4 (by decide) (by decide) ?_
    refine lv_iconst (v := nI 0) hx hb dX0_wants_74 (by decide) ?_
    exact gr_z F hr hlk hK hR dX0_wants_75 (by decide) (rfl) (rfl)
  · refine lv_tableOut (x := nI 12) (tgt := 74) hx hb dX0_wants_4 (by decide) (by decide) ?_
    refine lv_iconst (v := nI 0) hx hb dX0_wants_74 (by decide) ?_
    exact gr_z F hr hlk hK hR dX0_wants_75 (by decide) (rfl) (rfl)
set_option maxHeartbeats 4000000 in
set_option maxRecDepth 100000 in
/-- readOther(kind, act) -/
theorem c_X3_readOther (l : Launch) (G : gw_G) (A : Nat → Prop) (adr : Nat → Nat) (n : Nat) (S Y : Nat → Nat → Int32) (L : Int64) (x q i ac z g : Nat) (hxn : x < n) (hq : q < 4) (hac : S 10 (4 * x + q) = nI ac) (hi : i < ac) (h10 : ac ≤ 10) (hoth : oth (S 11) x (40 * (4 * x + q) + 4 * i) = z) (hz : z < n) (hg3 : S 11 (40 * (4 * x + q) + 4 * i + 3) = nI g) (hg : g < 4) : gm l yX3_readOther cX3_readOther 4 (some .int) (rmL 2) 0 0 A [.ref (adr 2), .ref (adr (nk x 0)), .ref (adr (nk x (14 + 10 * q + i)))] (gW G A adr (ccel G adr n S Y L)) (gW G A adr (ccel G adr n (sp_half S x z g) Y L)) (some (.int (sp_get (sp_half S x z g) z g))) := by
  refine gm_of (own := RX3) (by decide) rfl (Nat.le_of_ble_eq_true rfl) ?_
  intro p e s m below meth c ls F hml hr hlk hnm hK hR hl
  have hx := F.1
  have hb := F.2.1
  replace hl : lv_has ls 4 [(0, .ref (adr 2)), (1, .ref (adr (nk x 0))), (2, .ref (adr (nk x (14 + 10 * q + i))))] := hl
  refine lv_aload_n hx hb dX3_readOther_0 rfl (lv_at hl 2 rfl) ?_
  refine ag_1 F hK hR (by omega) (by omega) (hac) (by omega) (by omega) fl_X3_111 dX3_readOther_1 ?_
  rw [hoth]
  refine lv_astore_n (lv' := [(3, .ref (adr (nk z 0))), (0, .ref (adr 2)), (1, .ref (adr (nk x 0))), (2, .ref (adr (nk x (14 + 10 * q + i))))]) hx hb dX3_readOther_4 rfl hl (by decide) rfl (fun ls hl => ?_)
  refine lv_aload_n hx hb dX3_readOther_5 rfl (lv_at hl 0 rfl) ?_
  refine lv_aload_n hx hb dX3_readOther_6 rfl (lv_at hl 2 rfl) ?_
  refine lv_acmp_eq (rx := some (adr (nk z 0))) (ry := some (adr (nk x 0))) (tgt := 42) hx hb dX3_readOther_7 (by decide) (fun c_7 => ?_) (fun c_7 => ?_)
  · have hzx : z = x := acmp_k hR hz hxn c_7
    refine lv_aload_n hx hb dX3_readOther_42 rfl (lv_at hl 0 rfl) ?_
    refine lv_aload_n hx hb dX3_readOther_43 rfl (lv_at hl 3 rfl) ?_
    refine ag_4 F hK hR (by omega) (by omega) (hac) (by omega) (by omega) fl_X3_136 dX3_readOther_44 ?_
    refine lv_eq (hg3) ?_
    refine gcVi (As := [.int (nI g)]) F hK hR hml cv_X3_129 (o := nk z 0) (ccel_k (by omega) (by decide)) rfl rfl (c_X2_valueOf l G A adr n S Y L z g (by omega) (by omega)) ⟨rfl, rfl⟩ ⟨Nat.le_of_ble_eq_true rfl, Nat.le_of_ble_eq_true rfl⟩ rfl rfl hl.1 (Nat.le_of_ble_eq_true rfl) dX3_readOther_47 ⟨Nat.zero_le _, Nat.zero_le _⟩ (fun H locs hR => ?_)
    exact gr_i F hr hlk hK hR dX3_readOther_50 (by rw [half_no (fun _ q => absurd hzx q)]) (by rw [half_no (fun _ q => absurd hzx q)])
  · have hzx : ¬ z = x := fun q => c_7 (by rw [q])
    refine lv_aload_n hx hb dX3_readOther_10 rfl (lv_at hl 0 rfl) ?_
    refine kg_11 F hK hR (by omega) fl_X3_36 dX3_readOther_11 ?_
    refine lv_iconst (v := nI 1) hx hb dX3_readOther_14 (by decide) ?_
    refine lv_icmp_ne (tgt := 42) hx hb dX3_readOther_15 (by decide) (fun c_15 => ?_) (fun c_15 => ?_)
    · refine lv_aload_n hx hb dX3_readOther_42 rfl (lv_at hl 0 rfl) ?_
      refine lv_aload_n hx hb dX3_readOther_43 rfl (lv_at hl 3 rfl) ?_
      refine ag_4 F hK hR (by omega) (by omega) (hac) (by omega) (by omega) fl_X3_136 dX3_readOther_44 ?_
      refine lv_eq (hg3) ?_
      refine gcVi (As := [.int (nI g)]) F hK hR hml cv_X3_129 (o := nk z 0) (ccel_k (by omega) (by decide)) rfl rfl (c_X2_valueOf l G A adr n S Y L z g (by omega) (by omega)) ⟨rfl, rfl⟩ ⟨Nat.le_of_ble_eq_true rfl, Nat.le_of_ble_eq_true rfl⟩ rfl rfl hl.1 (Nat.le_of_ble_eq_true rfl) dX3_readOther_47 ⟨Nat.zero_le _, Nat.zero_le _⟩ (fun H locs hR => ?_)
      exact gr_i F hr hlk hK hR dX3_readOther_50 (by rw [half_no (fun _ _ => c_15)]) (by rw [half_no (fun _ _ => c_15)])
    · refine lv_aload_n hx hb dX3_readOther_18 rfl (lv_at hl 0 rfl) ?_
      refine lv_aload_n hx hb dX3_readOther_19 rfl (lv_at hl 3 rfl) ?_
      refine ag_4 F hK hR (by omega) (by omega) (hac) (by omega) (by omega) fl_X3_136 dX3_readOther_20 ?_
      refine lv_eq (hg3) ?_
      refine gcVi (As := [.int (nI g)]) F hK hR hml cv_X3_157 (o := nk z 0) (ccel_k (by omega) (by decide)) rfl rfl (c_X2_isConstant l G A adr n S Y L z g (by omega) (by omega)) ⟨rfl, rfl⟩ ⟨Nat.le_of_ble_eq_true rfl, Nat.le_of_ble_eq_true rfl⟩ rfl rfl hl.1 (Nat.le_of_ble_eq_true rfl) dX3_readOther_23 ⟨Nat.zero_le _, Nat.zero_le _⟩ (fun H locs hR => ?_)
      refine lv_if_ne (tgt := 42) hx hb dX3_readOther_26 (by decide) (fun c_26 => ?_) (fun c_26 => ?_)
      · refine lv_aload_n hx hb dX3_readOther_42 rfl (lv_at hl 0 rfl) ?_
        refine lv_aload_n hx hb dX3_readOther_43 rfl (lv_at hl 3 rfl) ?_
        refine ag_4 F hK hR (by omega) (by omega) (hac) (by omega) (by omega) fl_X3_136 dX3_readOther_44 ?_
        refine lv_eq (hg3) ?_
        refine gcVi (As := [.int (nI g)]) F hK hR hml cv_X3_129 (o := nk z 0) (ccel_k (by omega) (by decide)) rfl rfl (c_X2_valueOf l G A adr n S Y L z g (by omega) (by omega)) ⟨rfl, rfl⟩ ⟨Nat.le_of_ble_eq_true rfl, Nat.le_of_ble_eq_true rfl⟩ rfl rfl hl.1 (Nat.le_of_ble_eq_true rfl) dX3_readOther_47 ⟨Nat.zero_le _, Nat.zero_le _⟩ (fun H locs hR => ?_)
        exact gr_i F hr hlk hK hR dX3_readOther_50 (by rw [half_no (fun q => absurd (isK_z.mpr q) c_26)]) (by rw [half_no (fun q => absurd (isK_z.mpr q) c_26)])
      · refine lv_aload_n hx hb dX3_readOther_29 rfl (lv_at hl 1 rfl) ?_
        refine ng_0 F hK hR fl_X3_12 dX3_readOther_30 ?_
        refine lv_dup hx hb dX3_readOther_33 rfl ?_
        refine jg_3 F hK hR fl_X3_161 dX3_readOther_34 ?_
        refine lv_iconst (v := nI 1) hx hb dX3_readOther_37 (by decide) ?_
        refine lv_iadd hx hb dX3_readOther_38 ?_
        refine jp_3 F hK hR fl_X3_161 dX3_readOther_39 (fun H locs hR => ?_)
        refine lv_aload_n hx hb dX3_readOther_42 rfl (lv_at hl 0 rfl) ?_
        refine lv_aload_n hx hb dX3_readOther_43 rfl (lv_at hl 3 rfl) ?_
        refine ag_4 F hK hR (by omega) (by omega) ((m2_nk (by decide)).trans (hac)) (by omega) (by omega) fl_X3_136 dX3_readOther_44 ?_
        refine lv_eq ((m2_nk (by decide)).trans (hg3)) ?_
        refine gcVi (As := [.int (nI g)]) F hK hR hml cv_X3_129 (o := nk z 0) (ccel_k (by omega) (by decide)) rfl rfl (c_X2_valueOf l G A adr n (m2 S 16 0 ((S 16 0) + (nI 1))) Y L z g (by omega) (by omega)) ⟨rfl, rfl⟩ ⟨Nat.le_of_ble_eq_true rfl, Nat.le_of_ble_eq_true rfl⟩ rfl rfl hl.1 (Nat.le_of_ble_eq_true rfl) dX3_readOther_47 ⟨Nat.zero_le _, Nat.zero_le _⟩ (fun H locs hR => ?_)
        exact gr_i F hr hlk hK hR dX3_readOther_50 (by rw [half_yes (isK_z.mp c_26) hzx c_15]) (by rw [half_yes (isK_z.mp c_26) hzx c_15])
