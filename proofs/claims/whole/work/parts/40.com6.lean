/-! THE CLASS, 6: work, begin, perform, enter -/
theorem lgC_le (a : Nat → Int32) (mm : Nat) (t : Nat → Nat) (i : Nat) : ∀ k, lgC a mm t i k ≤ i + (a (40 * mm + 4 * i + 1)).toNatClampNeg := by
  intro k
  induction k with
  | zero => exact Nat.le_refl _
  | succ k ih =>
    rw [lgC]
    split
    · exact Nat.le_trans (Nat.min_le_left _ _) ih
    · exact ih
theorem lgN_le (a : Nat → Int32) (mm i : Nat) : lgN a mm i ≤ i + (a (40 * mm + 4 * i + 1)).toNatClampNeg := by
  unfold lgN
  rw [lgT]
  simp only [if_true]
  exact lgC_le a mm _ i i
theorem eoc_some {a : Nat → Int32} {mm pl : Nat} {w : Int32} : ∀ t, (∀ j, j < t → a (40 * mm + 4 * j) = nI 11 → (a (40 * mm + 4 * j + 1)).toNatClampNeg ≤ 9) → eoc a mm pl w t = -1 ∨ ∃ e, e ≤ t + 9 ∧ eoc a mm pl w t = nI e := by
  intro t
  induction t with
  | zero => intro _; exact Or.inl rfl
  | succ k ih =>
    intro h
    have ih2 : eoc a mm pl w k = -1 ∨ ∃ e, e ≤ k + 1 + 9 ∧ eoc a mm pl w k = nI e := (ih (fun j hj => h j (by omega))).imp id (fun ⟨e, h1, h2⟩ => ⟨e, by omega, h2⟩)
    rw [eoc]
    by_cases c1 : gdI a mm k pl = 0
    · rw [if_pos c1]; exact ih2
    rw [if_neg c1]
    by_cases c2 : ctI a (40 * mm + 4 * k) w = 0
    · rw [if_pos c2]; exact ih2
    rw [if_neg c2]
    have c11 : a (40 * mm + 4 * k) = nI 11 := by
      by_cases q : a (40 * mm + 4 * k) = nI 11
      · exact q
      · exact absurd (by rw [gdI, if_neg q]; rfl) c1
    refine Or.inr ⟨lgN a mm k, ?_, by rw [lgI, if_pos c11]⟩
    have := lgN_le a mm k
    have := h k (by omega) c11
    omega
theorem act_so {S : Nat → Nat → Int32} {n p : Nat} (h : okAct S n p) : ∃ so, so ≤ 12 ∧ S 11 p = nI so ∧ ¬ sp_areIn so (S 11 (p + 1)) (S 11 (p + 2)) (S 11 (p + 3)) = 0 := by
  obtain ⟨so, h1, h2, h3, -⟩ := h
  exact ⟨so, h1, h2, h3⟩
theorem act_z3 {S : Nat → Nat → Int32} {n p so : Nat} (h : okAct S n p) (hso : S 11 p = nI so) (h12 : so ≤ 12) (h1 : 1 ≤ so) (h3 : so ≤ 3) : ∃ z, z < n ∧ S 11 (p + 2) = nI z := by
  obtain ⟨s2, q1, q2, -, q3, -⟩ := h
  have e : s2 = so := (nI_eq (by omega) (by omega)).mp (q2.symm.trans hso)
  subst e
  exact q3 ⟨h1, h3⟩
theorem act_z7 {S : Nat → Nat → Int32} {n p so : Nat} (h : okAct S n p) (hso : S 11 p = nI so) (h12 : so ≤ 12) (h1 : so = 7 ∨ so = 8) : ∃ z, z < n ∧ S 11 (p + 1) = nI z := by
  obtain ⟨s2, q1, q2, -, -, q3⟩ := h
  have e : s2 = so := (nI_eq (by omega) (by omega)).mp (q2.symm.trans hso)
  subst e
  exact q3 h1
theorem act_t {S : Nat → Nat → Int32} {n p : Nat} (h : okAct S n p) (h11 : S 11 p = nI 11) : (S 11 (p + 1)).toNatClampNeg ≤ 9 := by
  obtain ⟨so, h1, h2, h3⟩ := act_so h
  have e : so = 11 := (nI_eq (by omega) (by decide)).mp (h2.symm.trans h11)
  subst e
  simp only [sp_areIn] at h3
  by_cases q1 : S 11 (p + 1) < nI 1
  · rw [if_pos q1] at h3; exact absurd rfl h3
  · rw [if_neg q1] at h3
    by_cases q2 : nI 9 < S 11 (p + 1)
    · rw [if_pos q2] at h3; exact absurd rfl h3
    · obtain ⟨g, -, h9, he⟩ := ix_in (by decide) (by decide) q1 q2
      rw [he, nI_clamp (by omega)]
      exact h9
theorem are_f1 {so : Nat} {ra rb rc : Int32} (h : ¬ sp_areIn so ra rb rc = 0) (hs : so ≤ 6) : ∃ f, f < 4 ∧ ra = nI f := by
  refine isF_yes (fun q => h ?_)
  rcases (by omega : so = 0 ∨ so = 1 ∨ so = 2 ∨ so = 3 ∨ so = 4 ∨ so = 5 ∨ so = 6) with rfl | rfl | rfl | rfl | rfl | rfl | rfl <;> simp only [sp_areIn] <;> first | exact q | (rw [if_pos q]; rfl)
theorem are_f3 {so : Nat} {ra rb rc : Int32} (h : ¬ sp_areIn so ra rb rc = 0) (h1 : 1 ≤ so) (hs : so ≤ 3) : ∃ f, f < 4 ∧ rc = nI f := by
  refine isF_yes (fun q => h ?_)
  rcases (by omega : so = 1 ∨ so = 2 ∨ so = 3) with rfl | rfl | rfl <;> simp only [sp_areIn] <;> split <;> first | rfl | (rw [if_pos q]; rfl)
theorem are_f2 {so : Nat} {ra rb rc : Int32} (h : ¬ sp_areIn so ra rb rc = 0) (h1 : so = 5 ∨ so = 6) : ∃ f, f < 4 ∧ rb = nI f := by
  refine isF_yes (fun q => h ?_)
  rcases h1 with rfl | rfl <;> simp only [sp_areIn] <;> split <;> first | rfl | (rw [if_pos q]; rfl)
theorem are_7 {ra rb rc : Int32} (h : ¬ sp_areIn 7 ra rb rc = 0) : ∃ f, f < 4 ∧ rb = nI f := by
  simp only [sp_areIn] at h
  by_cases q1 : rb < nI 1
  · rw [if_pos q1] at h; exact absurd rfl h
  · rw [if_neg q1] at h
    by_cases q2 : nI 3 < rb
    · rw [if_pos q2] at h; exact absurd rfl h
    · obtain ⟨g, h1, h3, he⟩ := ix_in (by decide) (by decide) q1 q2
      exact ⟨g, by omega, he⟩
theorem oth_3 {a : Nat → Int32} {x p so z : Nat} (hso : a p = nI so) (h1 : 1 ≤ so) (h3 : so ≤ 3) (hz : a (p + 2) = nI z) (h12 : z < 12) : oth a x p = z := by
  unfold oth
  rw [hso, nI_clamp (by omega), if_pos ⟨h1, h3⟩, hz, nI_clamp (by omega)]
theorem oth_7 {a : Nat → Int32} {x p so z : Nat} (hso : a p = nI so) (h7 : so = 7 ∨ so = 8) (hz : a (p + 1) = nI z) (h12 : z < 12) : oth a x p = z := by
  unfold oth
  rw [hso, nI_clamp (by omega), if_neg (by omega), if_pos h7, hz, nI_clamp (by omega)]
theorem evW_0 {S : Nat → Nat → Int32} {x q i so : Nat} (hso : S 11 (aT x q i) = nI so) (h12 : so ≤ 12) (h1 : ¬ (1 ≤ so ∧ so ≤ 3)) (h7 : so ≠ 7) (h8 : so ≠ 8) : evW S x q i = -1 := by
  unfold evW rf_wants rf_wants2
  rw [hso, nI_clamp (by omega)]
  by_cases c : so < 1
  · rw [if_pos c, if_neg h7, if_neg h8]
  · rw [if_neg c, if_pos (by omega), if_neg h7, if_neg h8]
theorem evW_7 {S : Nat → Nat → Int32} {x q i so : Nat} (hso : S 11 (aT x q i) = nI so) (h7 : so = 7 ∨ so = 8) : evW S x q i = S 11 (aT x q i + 1) := by
  unfold evW rf_wants rf_wants2
  rw [hso, nI_clamp (by omega), if_neg (by omega), if_pos (by omega)]
  rcases h7 with h | h
  · rw [if_pos h]
  · rw [if_neg (by omega), if_pos h]
theorem evW_3 {S : Nat → Nat → Int32} {x q i so z g : Nat} (hso : S 11 (aT x q i) = nI so) (h1 : 1 ≤ so) (h3 : so ≤ 3) (hz : S 11 (aT x q i + 2) = nI z) (hz12 : z < 12) (hg : S 11 (aT x q i + 3) = nI g) (hg4 : g < 4) : evW S x q i = if S 7 (4 * z + g) = 0 then nI z else -1 := by
  unfold evW rf_wants
  rw [hso, nI_clamp (by omega), if_neg (by omega), if_neg (by omega), hz, hg, nI_clamp (by omega), nI_clamp (by omega)]
theorem evW_sta {S S2 : Nat → Nat → Int32} {x q i : Nat} (h : sta S S2) : evW S2 x q i = evW S x q i := by
  unfold evW rf_wants
  rw [h 11 (by omega), h 7 (by omega)]
theorem oth_evW {n : Nat} {S : Nat → Nat → Int32} {x q i : Nat} (hok : okAct S n (aT x q i)) (hn : n ≤ 12) (hw : ¬ evW S x q i = -1) : oth (S 11) x (aT x q i) = (evW S x q i).toNatClampNeg := by
  obtain ⟨so, h12, hso, hv⟩ := act_so hok
  by_cases c3 : 1 ≤ so ∧ so ≤ 3
  · obtain ⟨z, hz, hze⟩ := act_z3 hok hso h12 c3.1 c3.2
    obtain ⟨g, hg, hge⟩ := are_f3 hv c3.1 c3.2
    rw [oth_3 hso c3.1 c3.2 hze (by omega)]
    rw [evW_3 hso c3.1 c3.2 hze (by omega) hge hg] at hw ⊢
    by_cases q7 : S 7 (4 * z + g) = 0
    · rw [if_pos q7, nI_clamp (by omega)]
    · rw [if_neg q7] at hw; exact absurd rfl hw
  · by_cases c7 : so = 7 ∨ so = 8
    · obtain ⟨z, hz, hze⟩ := act_z7 hok hso h12 c7
      rw [oth_7 hso c7 hze (by omega), evW_7 hso c7, hze, nI_clamp (by omega)]
    · exact absurd (evW_0 hso h12 c3 (by omega) (by omega)) hw
/-- Act.wants() -/
theorem c_X0_wants (l : Launch) (G : gw_G) (A : Nat → Prop) (adr : Nat → Nat) (n : Nat) (S Y : Nat → Nat → Int32) (L : Int64) (x q i : Nat) (hs : sI n S) (hxn : x < n) (hq : q < 4) (hi : i < (S 10 (4 * x + q)).toNatClampNeg) : gm l yX0_wants cX0_wants 1 (some .boolean) (rmL 2) 0 0 A [.ref (adr (nk x (14 + 10 * q + i)))] (gW G A adr (ccel G adr n S Y L)) (gW G A adr (ccel G adr n S Y L)) (some (.int (if evW S x q i = -1 then nI 0 else nI 1))) := by
  have hn := hs.1
  obtain ⟨hac, hae⟩ := sI_ac hs (mm := 4 * x + q) (by omega)
  have hok := sI_act hs hxn hq hi
  obtain ⟨so, h12, hso, hv⟩ := act_so hok
  by_cases c3 : 1 ≤ so ∧ so ≤ 3
  · obtain ⟨z, hz, hze⟩ := act_z3 hok hso h12 c3.1 c3.2
    obtain ⟨g, hg, hge⟩ := are_f3 hv c3.1 c3.2
    have e : (if evW S x q i = -1 then nI 0 else nI 1) = if S 7 (4 * z + g) = 0 then nI 1 else nI 0 := by
      rw [evW_3 hso c3.1 c3.2 hze (by omega) hge hg]
      by_cases q7 : S 7 (4 * z + g) = 0
      · rw [if_pos q7, if_pos q7, if_neg (nI_m1 (by omega))]
      · rw [if_neg q7, if_neg q7, if_pos rfl]
    rw [e]
    exact c_X0_wants1 l G A adr n S Y L x q i _ so z g hxn hq hae hi hac hso c3.1 c3.2 (oth_3 hso c3.1 c3.2 hze (by omega)) hz hge hg
  · by_cases c7 : so = 7 ∨ so = 8
    · obtain ⟨z, hz, hze⟩ := act_z7 hok hso h12 c7
      rw [evW_7 hso c7, hze, if_neg (nI_m1 (by omega))]
      exact c_X0_wants7 l G A adr n S Y L x q i _ so hxn hq hae hi hac hso c7
    · rw [evW_0 hso h12 c3 (by omega) (by omega), if_pos rfl]
      exact c_X0_wants0 l G A adr n S Y L x q i _ so hxn hq hae hi hac hso h12 c3 (by omega) (by omega)
set_option maxHeartbeats 4000000 in
set_option maxRecDepth 100000 in
theorem st_enter {l : Launch} {G : gw_G} {A : Nat → Prop} {adr : Nat → Nat} {n : Nat} {L : Int64} {k : Nat} (hA : cmAll l G A adr n L k) : cmE l G A adr n L (k + 1) := by
  intro S Y x q d hs hd hxn hq hd8 hm
  refine gm_of (own := RX3) (by decide) rfl (Nat.le_of_ble_eq_true rfl) ?_
  intro p e s m below meth c ls F hml hr hlk hnm hK hR hl
  have hx := F.1
  have hb := F.2.1
  obtain ⟨hev, he⟩ := hd.ev
  have hn12 := hs.1
  replace hl : lv_has ls 4 [(0, .ref (adr 2)), (1, .ref (adr (nk x 0))), (2, .int (nI q)), (3, .int (nI d))] := hl
  refine lv_iload_n hx hb dX3_enter_0 rfl (lv_at hl 3 rfl) ?_
  refine lv_bipush (v := nI 8) hx hb dX3_enter_1 (by decide) ?_
  refine nv_icmp_lt (by omega) (by omega) hx hb dX3_enter_3 (tgt := 13) (by decide) (fun c_3 => ?_) (fun c_3 => ?_)
  · have n_3 : ¬ (8 ≤ d) := by omega
    refine lv_aload_n hx hb dX3_enter_13 rfl (lv_at hl 0 rfl) ?_
    refine ng_0 F hK hR fl_X3_12 dX3_enter_14 ?_
    refine lv_iconst (v := nI 4) hx hb dX3_enter_17 (by decide) ?_
    refine lv_bipush (v := nI 10) hx hb dX3_enter_18 (by decide) ?_
    refine lv_aload_n hx hb dX3_enter_20 rfl (lv_at hl 1 rfl) ?_
    refine kg_0 F hK hR (by omega) fl_X3_45 dX3_enter_21 ?_
    refine nv_imul hx hb dX3_enter_24 ?_
    refine lv_iload_n hx hb dX3_enter_25 rfl (lv_at hl 2 rfl) ?_
    refine nv_iadd hx hb dX3_enter_26 ?_
    refine gcVv (As := [.int (nI 4), .int (nI (10 * x + q))]) F hK hR hml cv_X3_48 (o := 3) (rfl) rfl rfl (c_X1_note l G A adr n S Y L (cev S) (nI 4) (nI (10 * x + q)) (hev) (by omega)) ⟨rfl, rfl⟩ ⟨by dsimp only [rmL]; omega, by dsimp only [rmL]; omega⟩ rfl rfl hl.1 (Nat.le_of_ble_eq_true rfl) dX3_enter_27 ⟨Nat.zero_le _, Nat.zero_le _⟩ (fun H locs hR => ?_)
    refine lv_aload_n hx hb dX3_enter_30 rfl (lv_at hl 0 rfl) ?_
    refine lv_aload_n hx hb dX3_enter_31 rfl (lv_at hl 1 rfl) ?_
    refine lv_iload_n hx hb dX3_enter_32 rfl (lv_at hl 2 rfl) ?_
    refine lv_iload_n hx hb dX3_enter_33 rfl (lv_at hl 3 rfl) ?_
    refine gcVi (As := [.ref (adr (nk x 0)), .int (nI q), .int (nI d)]) F hK hR hml cv_X3_25 (o := 2) (rfl) rfl rfl (hA.2.2.2.1 (sp_tell S (cev S) (nI 4) (nI (10 * x + q))) Y x q d (hs.to tell_sta) (tell_dI hd) hxn hq c_3 (by have := eq12_cN (n := n) (S := S) (S2 := sp_tell S (cev S) (nI 4) (nI (10 * x + q))) (sp_tell_ne (by decide) (by decide) (by decide)); omega)) ⟨rfl, rfl⟩ ⟨by dsimp only [rmL]; omega, by dsimp only [rmL]; omega⟩ rfl rfl hl.1 (Nat.le_of_ble_eq_true rfl) dX3_enter_34 ⟨Nat.zero_le _, Nat.zero_le _⟩ (fun H locs hR => ?_)
    exact gr_i F hr hlk hK hR dX3_enter_37 (by rw [ev6, if_pos c_3]) (by rw [ev6, if_pos c_3])
  · have n_3 : ¬ (d < 8) := by omega
    refine lv_aload_n hx hb dX3_enter_6 rfl (lv_at hl 0 rfl) ?_
    refine lv_bipush (v := nI 9) hx hb dX3_enter_7 (by decide) ?_
    refine gcVi (As := [.int (nI 9)]) F hK hR hml cv_X3_41 (o := 2) (rfl) rfl rfl (c_X3_raise l G A adr n S Y L (nI 9) (by decide)) ⟨rfl, rfl⟩ ⟨by dsimp only [rmL]; omega, by dsimp only [rmL]; omega⟩ rfl rfl hl.1 (Nat.le_of_ble_eq_true rfl) dX3_enter_9 ⟨Nat.zero_le _, Nat.zero_le _⟩ (fun H locs hR => ?_)
    exact gr_i F hr hlk hK hR dX3_enter_12 (by rw [ev6, if_neg n_3]) (by rw [ev6, if_neg n_3])
set_option maxHeartbeats 4000000 in
set_option maxRecDepth 100000 in
theorem st_begin {l : Launch} {G : gw_G} {A : Nat → Prop} {adr : Nat → Nat} {n : Nat} {L : Int64} {k : Nat} (hA : cmAll l G A adr n L k) : cmB l G A adr n L (k + 1) := by
  intro S Y x q i d hs hd hxn hq hi hd8 hm
  refine gm_of (own := RX3) (by decide) rfl (Nat.le_of_ble_eq_true rfl) ?_
  intro p e s m below meth c ls F hml hr hlk hnm hK hR hl
  have hx := F.1
  have hb := F.2.1
  obtain ⟨hev, he⟩ := hd.ev
  have hn12 := hs.1
  replace hl : lv_has ls 5 [(0, .ref (adr 2)), (1, .ref (adr (nk x 0))), (2, .ref (adr (nk x (14 + 10 * q + i)))), (3, .int (nI d))] := hl
  refine lv_aload_n hx hb dX3_begin_0 rfl (lv_at hl 0 rfl) ?_
  refine ng_0 F hK hR fl_X3_12 dX3_begin_1 ?_
  refine jg_4 F hK hR fl_X3_103 dX3_begin_4 ?_
  refine lv_bipush (v := nI 80) hx hb dX3_begin_7 (by decide) ?_
  refine lv_icmp_lt (tgt := 15) hx hb dX3_begin_9 (by decide) (fun c_9 => ?_) (fun c_9 => ?_)
  · have n_9 := Int32.not_le.mpr c_9
    refine lv_aload_n hx hb dX3_begin_15 rfl (lv_at hl 0 rfl) ?_
    refine ng_0 F hK hR fl_X3_12 dX3_begin_16 ?_
    refine lv_dup hx hb dX3_begin_19 rfl ?_
    refine jg_4 F hK hR fl_X3_103 dX3_begin_20 ?_
    refine lv_iconst (v := nI 1) hx hb dX3_begin_23 (by decide) ?_
    refine lv_iadd hx hb dX3_begin_24 ?_
    refine jp_4 F hK hR fl_X3_103 dX3_begin_25 (fun H locs hR => ?_)
    replace hR : cB G A adr n (bgS S) Y L s.heap H locs := hR
    have hsb : sI n (bgS S) := hs.to bgS_sta
    have hdb : dI n (bgS S) := bgS_dI hd n_9
    have hib : i < (bgS S 10 (4 * x + q)).toNatClampNeg := by rw [bgS_sta 10 (by omega)]; exact hi
    have hcb : cN (bgS S) n = cN S n := eq12_cN (m2_ne (by decide))
    have hwb : evW (bgS S) x q i = evW S x q i := evW_sta bgS_sta
    obtain ⟨ac, hac, hi2, h10⟩ : ∃ ac, bgS S 10 (4 * x + q) = nI ac ∧ i < ac ∧ ac ≤ 10 := ⟨_, (sI_ac hsb (by omega)).2, hib, (sI_ac hsb (by omega)).1⟩
    by_cases hz : evW S x q i = -1
    · skip
      refine lv_aload_n hx hb dX3_begin_28 rfl (lv_at hl 2 rfl) ?_
      refine gcVi (As := []) F hK hR hml cv_X3_105 (o := nk x (14 + 10 * q + i)) ((ccel_k (by omega) (by omega)).trans (kc_t (by omega) (hac) (by omega) (by omega))) rfl rfl (c_X0_wants l G A adr n (bgS S) Y L x q i hsb hxn hq hib) ⟨rfl, rfl⟩ ⟨by dsimp only [rmL]; omega, by dsimp only [rmL]; omega⟩ rfl rfl hl.1 (Nat.le_of_ble_eq_true rfl) dX3_begin_29 ⟨Nat.zero_le _, Nat.zero_le _⟩ (fun H locs hR => ?_)
      refine lv_eq (by rw [hwb, if_pos hz]) ?_
      refine nv_if_eq (by omega) hx hb dX3_begin_32 (tgt := 55) (by decide) (fun c_32 => ?_) (fun c_32 => absurd c_32 (by omega))
      refine lv_aload_n hx hb dX3_begin_55 rfl (lv_at hl 0 rfl) ?_
      refine lv_aload_n hx hb dX3_begin_56 rfl (lv_at hl 1 rfl) ?_
      refine lv_aload_n hx hb dX3_begin_57 rfl (lv_at hl 2 rfl) ?_
      refine lv_iload_n hx hb dX3_begin_58 rfl (lv_at hl 3 rfl) ?_
      refine gcVi (As := [.ref (adr (nk x 0)), .ref (adr (nk x (14 + 10 * q + i))), .int (nI d)]) F hK hR hml cv_X3_114 (o := 2) (rfl) rfl rfl (hA.2.2.2.2.2.1 (bgS S) Y x q i d hsb hdb hxn hq hib hd8 (by omega)) ⟨rfl, rfl⟩ ⟨by dsimp only [rmL]; omega, by dsimp only [rmL]; omega⟩ rfl rfl hl.1 (Nat.le_of_ble_eq_true rfl) dX3_begin_59 ⟨Nat.zero_le _, Nat.zero_le _⟩ (fun H locs hR => ?_)
      exact gr_i F hr hlk hK hR dX3_begin_62 (by rw [ev4, if_neg n_9, if_pos hz, bgN, if_neg (not_not_intro rfl)]) (by rw [ev4, if_neg n_9, if_pos hz, bgN, if_neg (not_not_intro rfl)])
    · obtain ⟨hzn, hze⟩ := evW_z (sI_act hs hxn hq hi) hn12 hz
      have hoth : oth (bgS S 11) x (40 * (4 * x + q) + 4 * i) = (evW S x q i).toNatClampNeg := by rw [bgS_sta 11 (by omega)]; exact oth_evW (sI_act hs hxn hq hi) hn12 hz
      obtain ⟨z, hzz⟩ : ∃ z, (evW S x q i).toNatClampNeg = z := ⟨_, rfl⟩
      rw [hzz] at hzn hze hoth
      refine lv_aload_n hx hb dX3_begin_28 rfl (lv_at hl 2 rfl) ?_
      refine gcVi (As := []) F hK hR hml cv_X3_105 (o := nk x (14 + 10 * q + i)) ((ccel_k (by omega) (by omega)).trans (kc_t (by omega) (hac) (by omega) (by omega))) rfl rfl (c_X0_wants l G A adr n (bgS S) Y L x q i hsb hxn hq hib) ⟨rfl, rfl⟩ ⟨by dsimp only [rmL]; omega, by dsimp only [rmL]; omega⟩ rfl rfl hl.1 (Nat.le_of_ble_eq_true rfl) dX3_begin_29 ⟨Nat.zero_le _, Nat.zero_le _⟩ (fun H locs hR => ?_)
      refine lv_eq (by rw [hwb, if_neg hz]) ?_
      refine nv_if_eq (by omega) hx hb dX3_begin_32 (tgt := 55) (by decide) (fun c_32 => absurd c_32 (by omega)) (fun c_32 => ?_)
      refine lv_aload_n hx hb dX3_begin_35 rfl (lv_at hl 0 rfl) ?_
      refine lv_aload_n hx hb dX3_begin_36 rfl (lv_at hl 2 rfl) ?_
      refine ag_1 F hK hR (by omega) (by omega) (hac) (by omega) (by omega) fl_X3_111 dX3_begin_37 ?_
      rw [hoth]
      refine lv_iload_n hx hb dX3_begin_40 rfl (lv_at hl 3 rfl) ?_
      refine gcVi (As := [.ref (adr (nk z 0)), .int (nI d)]) F hK hR hml cv_X3_21 (o := 2) (rfl) rfl rfl (hA.1 (bgS S) Y z d hsb hdb hzn hd8 (by omega)) ⟨rfl, rfl⟩ ⟨by dsimp only [rmL]; omega, by dsimp only [rmL]; omega⟩ rfl rfl hl.1 (Nat.le_of_ble_eq_true rfl) dX3_begin_41 ⟨Nat.zero_le _, Nat.zero_le _⟩ (fun H locs hR => ?_)
      have g_r1 := ev_ok n k 0 z 0 0 d (bgS S, Y) hsb hdb hzn (by omega) (fun h => by omega)
      generalize hr_r1 : ev k 0 z 0 0 d (bgS S, Y) = r1 at g_r1 hR ⊢
      obtain ⟨hev_r1, he_r1⟩ := g_r1.2.2.1.ev
      refine lv_istore (lv' := [(4, .int r1.1), (0, .ref (adr 2)), (1, .ref (adr (nk x 0))), (2, .ref (adr (nk x (14 + 10 * q + i)))), (3, .int (nI d))]) hx hb dX3_begin_44 hl (by decide) rfl (fun ls hl => ?_)
      refine lv_iload hx hb dX3_begin_46 (lv_at hl 0 rfl) ?_
      refine lv_iconst (v := (-1)) hx hb dX3_begin_48 (by decide) ?_
      refine lv_icmp_eq (tgt := 55) hx hb dX3_begin_49 (by decide) (fun c_49 => ?_) (fun c_49 => ?_)
      · refine lv_aload_n hx hb dX3_begin_55 rfl (lv_at hl 1 rfl) ?_
        refine lv_aload_n hx hb dX3_begin_56 rfl (lv_at hl 2 rfl) ?_
        refine lv_aload_n hx hb dX3_begin_57 rfl (lv_at hl 3 rfl) ?_
        refine lv_iload_n hx hb dX3_begin_58 rfl (lv_at hl 4 rfl) ?_
        refine gcVi (As := [.ref (adr (nk x 0)), .ref (adr (nk x (14 + 10 * q + i))), .int (nI d)]) F hK hR hml cv_X3_114 (o := 2) (rfl) rfl rfl (hA.2.2.2.2.2.1 r1.2.1 r1.2.2 x q i d (hsb.to g_r1.1) g_r1.2.2.1 hxn hq (by rw [g_r1.1 10 (by omega)]; exact hib) hd8 (by have hc1 : cN r1.2.1 n ≤ cN (bgS S) n := cN_le g_r1.2.1; omega)) ⟨rfl, rfl⟩ ⟨by dsimp only [rmL]; omega, by dsimp only [rmL]; omega⟩ rfl rfl hl.1 (Nat.le_of_ble_eq_true rfl) dX3_begin_59 ⟨Nat.zero_le _, Nat.zero_le _⟩ (fun H locs hR => ?_)
        exact gr_i F hr hlk hK hR dX3_begin_62 (by rw [ev4, if_neg n_9, if_neg hz, hzz]; dsimp only; rw [hr_r1, bgN, if_neg (not_not_intro c_49)]) (by rw [ev4, if_neg n_9, if_neg hz, hzz]; dsimp only; rw [hr_r1, bgN, if_neg (not_not_intro c_49)])
      · refine lv_iload hx hb dX3_begin_52 (lv_at hl 0 rfl) ?_
        exact gr_i F hr hlk hK hR dX3_begin_54 (by rw [ev4, if_neg n_9, if_neg hz, hzz]; dsimp only; rw [hr_r1, bgN, if_pos c_49]) (by rw [ev4, if_neg n_9, if_neg hz, hzz]; dsimp only; rw [hr_r1, bgN, if_pos c_49])
  · have n_9 := Int32.not_lt.mp c_9
    refine lv_bipush (v := nI 10) hx hb dX3_begin_12 (by decide) ?_
    exact gr_i F hr hlk hK hR dX3_begin_14 (by rw [ev4, if_pos n_9]) (by rw [ev4, if_pos n_9])
