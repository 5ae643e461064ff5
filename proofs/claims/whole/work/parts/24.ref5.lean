/-! THE REFERENCE, 5: its machine, case by case -/
theorem m2_id {M : Nat → Nat → Int32} {k i : Nat} {x : Int32} (h : M k i = x) : m2 M k i x = M := by
  funext a b
  by_cases ha : a = k
  · subst ha
    by_cases hb : b = i
    · subst hb
      rw [m2_at, h]
    · rw [m2_o hb]
  · rw [m2_nk ha]
theorem m2_tw {M : Nat → Nat → Int32} {k i : Nat} {x y : Int32} : m2 (m2 M k i x) k i y = m2 M k i y := by
  funext a b
  by_cases ha : a = k
  · subst ha
    by_cases hb : b = i
    · subst hb
      rw [m2_at, m2_at]
    · rw [m2_o hb, m2_o hb, m2_o hb]
  · rw [m2_nk ha, m2_nk ha, m2_nk ha]
theorem nI_m1 {a : Nat} (h : a < 2 ^ 31) : ¬ nI a = -1 := by
  intro q
  have := congrArg Int32.toInt q
  rw [nI_toInt h] at this
  have e : (-1 : Int32).toInt = -1 := rfl
  omega
/-- whether the guard g of the frame f catches w -/
def rf_cat (X : Nat → Nat → Int32) (f g : Nat) (w : Int32) : Prop := ¬ w = nI 10 ∧ (X 30 (10 * f + g) = -1 ∨ X 30 (10 * f + g) = w)
theorem cat_1 {X : Nat → Nat → Int32} {f g : Nat} {w : Int32} (h1 : ¬ w = nI 10) (h2 : X 30 (10 * f + g) = -1) : rf_cat X f g w := ⟨h1, Or.inl h2⟩
theorem cat_2 {X : Nat → Nat → Int32} {f g : Nat} {w : Int32} (h1 : ¬ w = nI 10) (h2 : X 30 (10 * f + g) = w) : rf_cat X f g w := ⟨h1, Or.inr h2⟩
set_option maxHeartbeats 4000000 in
set_option maxRecDepth 100000 in
/-- look: all faces done -/
theorem c_X7_lookE (l : Launch) (G : gw_G) (A : Nat → Prop) (adr : Nat → Nat) (S X : Nat → Nat → Int32) (f x i : Nat) (hf0 : X 22 0 = nI (f + 1)) (hf : f + 1 < 300) (hxx : x < 12) (h25 : X 25 f = nI i) (hi : i ≤ 3) (hfc : S 4 x = nI i) : gm l yX7_look cX7_look 4 none (rmL 2) 0 0 A [.ref (adr 0), .int (nI f), .int (nI x)] (gW G A adr (rcel G adr S X)) (gW G A adr (rcel G adr S (m2 X 22 0 (nI f)))) none := by
  refine gm_of (own := RX7) (by decide) rfl (Nat.le_of_ble_eq_true rfl) ?_
  intro p e s m below meth c ls F hml hr hlk hnm hK hR hl
  have hx := F.1
  have hb := F.2.1
  have hl : lv_has ls 4 [(0, .ref (adr 0)), (1, .int (nI f)), (2, .int (nI x))] := hl
  refine lv_aload_n hx hb dX7_look_0 rfl (lv_at hl 0 rfl) ?_
  refine rg_25 F hK hR dX7_look_1 ?_
  refine lv_iload_n hx hb dX7_look_4 rfl (lv_at hl 1 rfl) ?_
  refine ri_25 F hK hR (by omega) dX7_look_5 ?_
  refine lv_eq (h25) ?_
  refine lv_aload_n hx hb dX7_look_6 rfl (lv_at hl 0 rfl) ?_
  refine rg_4 F hK hR dX7_look_7 ?_
  refine lv_iload_n hx hb dX7_look_10 rfl (lv_at hl 2 rfl) ?_
  refine ri_4 F hK hR (by omega) dX7_look_11 ?_
  refine lv_eq (hfc) ?_
  refine nv_icmp_ne (by omega) (by omega) hx hb dX7_look_12 (tgt := 26) (by decide) (fun c_12 => absurd c_12 (fun q => q rfl)) (fun c_12 => ?_)
  refine lv_aload_n hx hb dX7_look_15 rfl (lv_at hl 0 rfl) ?_
  refine lv_dup hx hb dX7_look_16 rfl ?_
  refine rg_22 F hK hR dX7_look_17 ?_
  refine lv_eq (hf0) ?_
  refine lv_iconst (v := nI 1) hx hb dX7_look_20 (by decide) ?_
  refine nv_isub (by omega) hx hb dX7_look_21 ?_
  refine rp_22 F hK hR dX7_look_22 (fun H locs hR => ?_)
  exact gr_v F hr hlk hK hR dX7_look_25 (rfl)
set_option maxHeartbeats 4000000 in
set_option maxRecDepth 100000 in
/-- look: into a face -/
theorem c_X7_lookD (l : Launch) (G : gw_G) (A : Nat → Prop) (adr : Nat → Nat) (S X : Nat → Nat → Int32) (f x i fc y : Nat) (hf0 : X 22 0 = nI (f + 1)) (hf : f + 1 < 300) (hxx : x < 12) (h25 : X 25 f = nI i) (hfc : S 4 x = nI fc) (hi : i < fc) (hfc3 : fc ≤ 3) (hy : S 5 (3 * x + i) = nI y) (hyy : y < 12) (h27 : X 27 f = nI 0) : gm l yX7_look cX7_look 4 none (rmL 2) 0 0 A [.ref (adr 0), .int (nI f), .int (nI x)] (gW G A adr (rcel G adr S X)) (gW G A adr (rcel G adr S (rf_push (m2 X 27 f (nI 1)) (f + 1) (nI 2) (nI y) (nI 0)))) none := by
  refine gm_of (own := RX7) (by decide) rfl (Nat.le_of_ble_eq_true rfl) ?_
  intro p e s m below meth c ls F hml hr hlk hnm hK hR hl
  have hx := F.1
  have hb := F.2.1
  have hl : lv_has ls 4 [(0, .ref (adr 0)), (1, .int (nI f)), (2, .int (nI x))] := hl
  refine lv_aload_n hx hb dX7_look_0 rfl (lv_at hl 0 rfl) ?_
  refine rg_25 F hK hR dX7_look_1 ?_
  refine lv_iload_n hx hb dX7_look_4 rfl (lv_at hl 1 rfl) ?_
  refine ri_25 F hK hR (by omega) dX7_look_5 ?_
  refine lv_eq (h25) ?_
  refine lv_aload_n hx hb dX7_look_6 rfl (lv_at hl 0 rfl) ?_
  refine rg_4 F hK hR dX7_look_7 ?_
  refine lv_iload_n hx hb dX7_look_10 rfl (lv_at hl 2 rfl) ?_
  refine ri_4 F hK hR (by omega) dX7_look_11 ?_
  refine lv_eq (hfc) ?_
  refine nv_icmp_ne (by omega) (by omega) hx hb dX7_look_12 (tgt := 26) (by decide) (fun c_12 => ?_) (fun c_12 => absurd c_12 (by omega))
  refine lv_aload_n hx hb dX7_look_26 rfl (lv_at hl 0 rfl) ?_
  refine rg_5 F hK hR dX7_look_27 ?_
  refine lv_iconst (v := nI 3) hx hb dX7_look_30 (by decide) ?_
  refine lv_iload_n hx hb dX7_look_31 rfl (lv_at hl 2 rfl) ?_
  refine nv_imul hx hb dX7_look_32 ?_
  refine lv_aload_n hx hb dX7_look_33 rfl (lv_at hl 0 rfl) ?_
  refine rg_25 F hK hR dX7_look_34 ?_
  refine lv_iload_n hx hb dX7_look_37 rfl (lv_at hl 1 rfl) ?_
  refine ri_25 F hK hR (by omega) dX7_look_38 ?_
  refine lv_eq (h25) ?_
  refine nv_iadd hx hb dX7_look_39 ?_
  refine ri_5 F hK hR (by omega) dX7_look_40 ?_
  refine lv_eq (hy) ?_
  refine lv_istore_n (lv' := [(3, .int (nI y)), (0, .ref (adr 0)), (1, .int (nI f)), (2, .int (nI x))]) hx hb dX7_look_41 rfl hl (by decide) rfl (fun ls hl => ?_)
  refine lv_aload_n hx hb dX7_look_42 rfl (lv_at hl 1 rfl) ?_
  refine rg_27 F hK hR dX7_look_43 ?_
  refine lv_iload_n hx hb dX7_look_46 rfl (lv_at hl 2 rfl) ?_
  refine lv_dup2_11 hx hb dX7_look_47 rfl rfl ?_
  refine ri_27 F hK hR (by omega) dX7_look_48 ?_
  refine lv_eq (h27) ?_
  refine lv_iconst (v := nI 1) hx hb dX7_look_49 (by decide) ?_
  refine nv_iadd hx hb dX7_look_50 ?_
  refine rs_27 F hK hR (by omega) dX7_look_51 (fun H locs hR => ?_)
  refine lv_aload_n hx hb dX7_look_52 rfl (lv_at hl 1 rfl) ?_
  refine rg_27 F hK hR dX7_look_53 ?_
  refine lv_iload_n hx hb dX7_look_56 rfl (lv_at hl 2 rfl) ?_
  refine ri_27 F hK hR (by omega) dX7_look_57 ?_
  refine lv_eq (m2_at) ?_
  refine lv_iconst (v := nI 1) hx hb dX7_look_58 (by decide) ?_
  refine nv_icmp_ne (by omega) (by omega) hx hb dX7_look_59 (tgt := 72) (by decide) (fun c_59 => absurd c_59 (by omega)) (fun c_59 => ?_)
  refine lv_aload_n hx hb dX7_look_62 rfl (lv_at hl 1 rfl) ?_
  refine lv_iconst (v := nI 2) hx hb dX7_look_63 (by decide) ?_
  refine lv_iload_n hx hb dX7_look_64 rfl (lv_at hl 0 rfl) ?_
  refine lv_iconst (v := nI 0) hx hb dX7_look_65 (by decide) ?_
  refine gcVv (As := [.int (nI 2), .int (nI y), .int (nI 0)]) F hK hR hml cv_X7_122 (o := 0) rfl rfl rfl (c_X7_push l G A adr S (m2 X 27 f (nI 1)) (f + 1) (nI 2) (nI y) (nI 0) ((m2_nk (by decide)).trans (hf0)) (by omega)) ⟨rfl, rfl⟩ ⟨Nat.le_of_ble_eq_true rfl, Nat.le_of_ble_eq_true rfl⟩ rfl rfl hl.1 (Nat.le_of_ble_eq_true rfl) dX7_look_66 ⟨Nat.zero_le _, Nat.zero_le _⟩ (fun H locs hR => ?_)
  refine lv_goto (tgt := 103) hx hb dX7_look_69 (by decide) ?_
  exact gr_v F hr hlk hK hR dX7_look_103 (rfl)
set_option maxHeartbeats 4000000 in
set_option maxRecDepth 100000 in
/-- look: a face without defaults -/
theorem c_X7_lookN (l : Launch) (G : gw_G) (A : Nat → Prop) (adr : Nat → Nat) (S X : Nat → Nat → Int32) (f x i fc y : Nat) (hf0 : X 22 0 = nI (f + 1)) (hf : f + 1 < 300) (hxx : x < 12) (h25 : X 25 f = nI i) (hfc : S 4 x = nI fc) (hi : i < fc) (hfc3 : fc ≤ 3) (hy : S 5 (3 * x + i) = nI y) (hyy : y < 12) (h27 : X 27 f = nI 1) (hd : S 2 y = 0) : gm l yX7_look cX7_look 4 none (rmL 2) 0 0 A [.ref (adr 0), .int (nI f), .int (nI x)] (gW G A adr (rcel G adr S X)) (gW G A adr (rcel G adr S (m2 (m2 (m2 X 27 f (nI 2)) 27 f (nI 0)) 25 f (nI (i + 1))))) none := by
  refine gm_of (own := RX7) (by decide) rfl (Nat.le_of_ble_eq_true rfl) ?_
  intro p e s m below meth c ls F hml hr hlk hnm hK hR hl
  have hx := F.1
  have hb := F.2.1
  have hl : lv_has ls 4 [(0, .ref (adr 0)), (1, .int (nI f)), (2, .int (nI x))] := hl
  refine lv_aload_n hx hb dX7_look_0 rfl (lv_at hl 0 rfl) ?_
  refine rg_25 F hK hR dX7_look_1 ?_
  refine lv_iload_n hx hb dX7_look_4 rfl (lv_at hl 1 rfl) ?_
  refine ri_25 F hK hR (by omega) dX7_look_5 ?_
  refine lv_eq (h25) ?_
  refine lv_aload_n hx hb dX7_look_6 rfl (lv_at hl 0 rfl) ?_
  refine rg_4 F hK hR dX7_look_7 ?_
  refine lv_iload_n hx hb dX7_look_10 rfl (lv_at hl 2 rfl) ?_
  refine ri_4 F hK hR (by omega) dX7_look_11 ?_
  refine lv_eq (hfc) ?_
  refine nv_icmp_ne (by omega) (by omega) hx hb dX7_look_12 (tgt := 26) (by decide) (fun c_12 => ?_) (fun c_12 => absurd c_12 (by omega))
  refine lv_aload_n hx hb dX7_look_26 rfl (lv_at hl 0 rfl) ?_
  refine rg_5 F hK hR dX7_look_27 ?_
  refine lv_iconst (v := nI 3) hx hb dX7_look_30 (by decide) ?_
  refine lv_iload_n hx hb dX7_look_31 rfl (lv_at hl 2 rfl) ?_
  refine nv_imul hx hb dX7_look_32 ?_
  refine lv_aload_n hx hb dX7_look_33 rfl (lv_at hl 0 rfl) ?_
  refine rg_25 F hK hR dX7_look_34 ?_
  refine lv_iload_n hx hb dX7_look_37 rfl (lv_at hl 1 rfl) ?_
  refine ri_25 F hK hR (by omega) dX7_look_38 ?_
  refine lv_eq (h25) ?_
  refine nv_iadd hx hb dX7_look_39 ?_
  refine ri_5 F hK hR (by omega) dX7_look_40 ?_
  refine lv_eq (hy) ?_
  refine lv_istore_n (lv' := [(3, .int (nI y)), (0, .ref (adr 0)), (1, .int (nI f)), (2, .int (nI x))]) hx hb dX7_look_41 rfl hl (by decide) rfl (fun ls hl => ?_)
  refine lv_aload_n hx hb dX7_look_42 rfl (lv_at hl 1 rfl) ?_
  refine rg_27 F hK hR dX7_look_43 ?_
  refine lv_iload_n hx hb dX7_look_46 rfl (lv_at hl 2 rfl) ?_
  refine lv_dup2_11 hx hb dX7_look_47 rfl rfl ?_
  refine ri_27 F hK hR (by omega) dX7_look_48 ?_
  refine lv_eq (h27) ?_
  refine lv_iconst (v := nI 1) hx hb dX7_look_49 (by decide) ?_
  refine nv_iadd hx hb dX7_look_50 ?_
  refine rs_27 F hK hR (by omega) dX7_look_51 (fun H locs hR => ?_)
  refine lv_aload_n hx hb dX7_look_52 rfl (lv_at hl 1 rfl) ?_
  refine rg_27 F hK hR dX7_look_53 ?_
  refine lv_iload_n hx hb dX7_look_56 rfl (lv_at hl 2 rfl) ?_
  refine ri_27 F hK hR (by omega) dX7_look_57 ?_
  refine lv_eq (m2_at) ?_
  refine lv_iconst (v := nI 1) hx hb dX7_look_58 (by decide) ?_
  refine nv_icmp_ne (by omega) (by omega) hx hb dX7_look_59 (tgt := 72) (by decide) (fun c_59 => ?_) (fun c_59 => absurd c_59 (by omega))
  refine lv_aload_n hx hb dX7_look_72 rfl (lv_at hl 1 rfl) ?_
  refine rg_27 F hK hR dX7_look_73 ?_
  refine lv_iload_n hx hb dX7_look_76 rfl (lv_at hl 2 rfl) ?_
  refine lv_iconst (v := nI 0) hx hb dX7_look_77 (by decide) ?_
  refine rs_27 F hK hR (by omega) dX7_look_78 (fun H locs hR => ?_)
  refine lv_aload_n hx hb dX7_look_79 rfl (lv_at hl 1 rfl) ?_
  refine rg_25 F hK hR dX7_look_80 ?_
  refine lv_iload_n hx hb dX7_look_83 rfl (lv_at hl 2 rfl) ?_
  refine lv_dup2_11 hx hb dX7_look_84 rfl rfl ?_
  refine ri_25 F hK hR (by omega) dX7_look_85 ?_
  refine lv_eq (((m2_nk (by decide)).trans (m2_nk (by decide))).trans (h25)) ?_
  refine lv_iconst (v := nI 1) hx hb dX7_look_86 (by decide) ?_
  refine nv_iadd hx hb dX7_look_87 ?_
  refine rs_25 F hK hR (by omega) dX7_look_88 (fun H locs hR => ?_)
  refine lv_aload_n hx hb dX7_look_89 rfl (lv_at hl 1 rfl) ?_
  refine rg_2 F hK hR dX7_look_90 ?_
  refine lv_iload_n hx hb dX7_look_93 rfl (lv_at hl 0 rfl) ?_
  refine ri_2 F hK hR (by omega) dX7_look_94 ?_
  refine lv_if_eq (tgt := 103) hx hb dX7_look_95 (by decide) (fun c_95 => ?_) (fun c_95 => absurd hd c_95)
  exact gr_v F hr hlk hK hR dX7_look_103 (rfl)
set_option maxHeartbeats 4000000 in
set_option maxRecDepth 100000 in
/-- look: a face with defaults -/
theorem c_X7_lookW (l : Launch) (G : gw_G) (A : Nat → Prop) (adr : Nat → Nat) (S X : Nat → Nat → Int32) (f x i fc y ev : Nat) (hf0 : X 22 0 = nI (f + 1)) (hf : f + 1 < 300) (hxx : x < 12) (h25 : X 25 f = nI i) (hfc : S 4 x = nI fc) (hi : i < fc) (hfc3 : fc ≤ 3) (hy : S 5 (3 * x + i) = nI y) (hyy : y < 12) (h27 : X 27 f = nI 1) (hd : ¬ S 2 y = 0) (hev : S 13 0 = nI ev) (he : ev ≤ 60) : gm l yX7_look cX7_look 4 none (rmL 2) 0 0 A [.ref (adr 0), .int (nI f), .int (nI x)] (gW G A adr (rcel G adr S X)) (gW G A adr (rcel G adr (rf_wantS S ev y) (rf_wantX S (m2 (m2 (m2 X 27 f (nI 2)) 27 f (nI 0)) 25 f (nI (i + 1))) (f + 1) y))) none := by
  refine gm_of (own := RX7) (by decide) rfl (Nat.le_of_ble_eq_true rfl) ?_
  intro p e s m below meth c ls F hml hr hlk hnm hK hR hl
  have hx := F.1
  have hb := F.2.1
  have hl : lv_has ls 4 [(0, .ref (adr 0)), (1, .int (nI f)), (2, .int (nI x))] := hl
  refine lv_aload_n hx hb dX7_look_0 rfl (lv_at hl 0 rfl) ?_
  refine rg_25 F hK hR dX7_look_1 ?_
  refine lv_iload_n hx hb dX7_look_4 rfl (lv_at hl 1 rfl) ?_
  refine ri_25 F hK hR (by omega) dX7_look_5 ?_
  refine lv_eq (h25) ?_
  refine lv_aload_n hx hb dX7_look_6 rfl (lv_at hl 0 rfl) ?_
  refine rg_4 F hK hR dX7_look_7 ?_
  refine lv_iload_n hx hb dX7_look_10 rfl (lv_at hl 2 rfl) ?_
  refine ri_4 F hK hR (by omega) dX7_look_11 ?_
  refine lv_eq (hfc) ?_
  refine nv_icmp_ne (by omega) (by omega) hx hb dX7_look_12 (tgt := 26) (by decide) (fun c_12 => ?_) (fun c_12 => absurd c_12 (by omega))
  refine lv_aload_n hx hb dX7_look_26 rfl (lv_at hl 0 rfl) ?_
  refine rg_5 F hK hR dX7_look_27 ?_
  refine lv_iconst (v := nI 3) hx hb dX7_look_30 (by decide) ?_
  refine lv_iload_n hx hb dX7_look_31 rfl (lv_at hl 2 rfl) ?_
  refine nv_imul hx hb dX7_look_32 ?_
  refine lv_aload_n hx hb dX7_look_33 rfl (lv_at hl 0 rfl) ?_
  refine rg_25 F hK hR dX7_look_34 ?_
  refine lv_iload_n hx hb dX7_look_37 rfl (lv_at hl 1 rfl) ?_
  refine ri_25 F hK hR (by omega) dX7_look_38 ?_
  refine lv_eq (h25) ?_
  refine nv_iadd hx hb dX7_look_39 ?_
  refine ri_5 F hK hR (by omega) dX7_look_40 ?_
  refine lv_eq (hy) ?_
  refine lv_istore_n (lv' := [(3, .int (nI y)), (0, .ref (adr 0)), (1, .int (nI f)), (2, .int (nI x))]) hx hb dX7_look_41 rfl hl (by decide) rfl (fun ls hl => ?_)
  refine lv_aload_n hx hb dX7_look_42 rfl (lv_at hl 1 rfl) ?_
  refine rg_27 F hK hR dX7_look_43 ?_
  refine lv_iload_n hx hb dX7_look_46 rfl (lv_at hl 2 rfl) ?_
  refine lv_dup2_11 hx hb dX7_look_47 rfl rfl ?_
  refine ri_27 F hK hR (by omega) dX7_look_48 ?_
  refine lv_eq (h27) ?_
  refine lv_iconst (v := nI 1) hx hb dX7_look_49 (by decide) ?_
  refine nv_iadd hx hb dX7_look_50 ?_
  refine rs_27 F hK hR (by omega) dX7_look_51 (fun H locs hR => ?_)
  refine lv_aload_n hx hb dX7_look_52 rfl (lv_at hl 1 rfl) ?_
  refine rg_27 F hK hR dX7_look_53 ?_
  refine lv_iload_n hx hb dX7_look_56 rfl (lv_at hl 2 rfl) ?_
  refine ri_27 F hK hR (by omega) dX7_look_57 ?_
  refine lv_eq (m2_at) ?_
  refine lv_iconst (v := nI 1) hx hb dX7_look_58 (by decide) ?_
  refine nv_icmp_ne (by omega) (by omega) hx hb dX7_look_59 (tgt := 72) (by decide) (fun c_59 => ?_) (fun c_59 => absurd c_59 (by omega))
  refine lv_aload_n hx hb dX7_look_72 rfl (lv_at hl 1 rfl) ?_
  refine rg_27 F hK hR dX7_look_73 ?_
  refine lv_iload_n hx hb dX7_look_76 rfl (lv_at hl 2 rfl) ?_
  refine lv_iconst (v := nI 0) hx hb dX7_look_77 (by decide) ?_
  refine rs_27 F hK hR (by omega) dX7_look_78 (fun H locs hR => ?_)
  refine lv_aload_n hx hb dX7_look_79 rfl (lv_at hl 1 rfl) ?_
  refine rg_25 F hK hR dX7_look_80 ?_
  refine lv_iload_n hx hb dX7_look_83 rfl (lv_at hl 2 rfl) ?_
  refine lv_dup2_11 hx hb dX7_look_84 rfl rfl ?_
  refine ri_25 F hK hR (by omega) dX7_look_85 ?_
  refine lv_eq (((m2_nk (by decide)).trans (m2_nk (by decide))).trans (h25)) ?_
  refine lv_iconst (v := nI 1) hx hb dX7_look_86 (by decide) ?_
  refine nv_iadd hx hb dX7_look_87 ?_
  refine rs_25 F hK hR (by omega) dX7_look_88 (fun H locs hR => ?_)
  refine lv_aload_n hx hb dX7_look_89 rfl (lv_at hl 1 rfl) ?_
  refine rg_2 F hK hR dX7_look_90 ?_
  refine lv_iload_n hx hb dX7_look_93 rfl (lv_at hl 0 rfl) ?_
  refine ri_2 F hK hR (by omega) dX7_look_94 ?_
  refine lv_if_eq (tgt := 103) hx hb dX7_look_95 (by decide) (fun c_95 => absurd c_95 (hd)) (fun c_95 => ?_)
  refine lv_aload_n hx hb dX7_look_98 rfl (lv_at hl 1 rfl) ?_
  refine lv_iload_n hx hb dX7_look_99 rfl (lv_at hl 0 rfl) ?_
  refine gcVv (As := [.int (nI y)]) F hK hR hml cv_X7_133 (o := 0) rfl rfl rfl (c_X7_want l G A adr S (m2 (m2 (m2 X 27 f (nI 2)) 27 f (nI 0)) 25 f (nI (i + 1))) ev (f + 1) y (hev) (by omega) ((((m2_nk (by decide)).trans (m2_nk (by decide))).trans (m2_nk (by decide))).trans (hf0)) (by omega) (by omega)) ⟨rfl, rfl⟩ ⟨Nat.le_of_ble_eq_true rfl, Nat.le_of_ble_eq_true rfl⟩ rfl rfl hl.1 (Nat.le_of_ble_eq_true rfl) dX7_look_100 ⟨Nat.zero_le _, Nat.zero_le _⟩ (fun H locs hR => ?_)
  exact gr_v F hr hlk hK hR dX7_look_103 (rfl)
set_option maxHeartbeats 4000000 in
set_option maxRecDepth 100000 in
/-- fly: a guard catches -/
theorem c_X7_flyC (l : Launch) (G : gw_G) (A : Nat → Prop) (adr : Nat → Nat) (S X : Nat → Nat → Int32) (f x g dd : Nat) (w : Int32) (hf0 : X 22 0 = nI (f + 1)) (hf : f < 300) (h24 : X 24 f = nI x) (hw : X 31 0 = w) (h23 : X 23 f = nI 0) (h28 : X 28 f = nI (g + 1 + dd)) (hg : g + 1 + dd ≤ 10) (hc : rf_cat X f g w) (hn : ∀ j, g < j → j < g + 1 + dd → ¬ rf_cat X f j w) : gm l yX7_fly cX7_fly 4 none (rmL 1) 0 0 A [.ref (adr 0)] (gW G A adr (rcel G adr S X)) (gW G A adr (rcel G adr S (m2 (m2 (m2 (m2 X 28 f (nI g)) 31 0 (-1)) 26 f (X 29 (10 * f + g))) 27 f (nI 0)))) none := by
  refine gm_of (own := RX7) (by decide) rfl (Nat.le_of_ble_eq_true rfl) ?_
  intro p e s m below meth c ls F hml hr hlk hnm hK hR hl
  have hx := F.1
  have hb := F.2.1
  have hl : lv_has ls 4 [(0, .ref (adr 0))] := hl
  refine lv_aload_n hx hb dX7_fly_0 rfl (lv_at hl 0 rfl) ?_
  refine rg_22 F hK hR dX7_fly_1 ?_
  refine lv_eq (hf0) ?_
  refine lv_iconst (v := nI 1) hx hb dX7_fly_4 (by decide) ?_
  refine nv_isub (by omega) hx hb dX7_fly_5 ?_
  refine lv_istore_n (lv' := [(1, .int (nI (f + 1 - 1))), (0, .ref (adr 0))]) hx hb dX7_fly_6 rfl hl (by decide) rfl (fun ls hl => ?_)
  replace hl : lv_has ls 4 [(1, .int (nI f)), (0, .ref (adr 0))] := hl
  refine lv_aload_n hx hb dX7_fly_7 rfl (lv_at hl 1 rfl) ?_
  refine rg_24 F hK hR dX7_fly_8 ?_
  refine lv_iload_n hx hb dX7_fly_11 rfl (lv_at hl 0 rfl) ?_
  refine ri_24 F hK hR (by omega) dX7_fly_12 ?_
  refine lv_eq (h24) ?_
  refine lv_istore_n (lv' := [(2, .int (nI x)), (1, .int (nI f)), (0, .ref (adr 0))]) hx hb dX7_fly_13 rfl hl (by decide) rfl (fun ls hl => ?_)
  refine lv_aload_n hx hb dX7_fly_14 rfl (lv_at hl 2 rfl) ?_
  refine rg_23 F hK hR dX7_fly_15 ?_
  refine lv_iload_n hx hb dX7_fly_18 rfl (lv_at hl 1 rfl) ?_
  refine ri_23 F hK hR (by omega) dX7_fly_19 ?_
  refine lv_eq (h23) ?_
  refine nv_if_ne (by omega) hx hb dX7_fly_20 (tgt := 127) (by decide) (fun c_20 => absurd c_20 (by omega)) (fun c_20 => ?_)
  refine lp_gen hR (fun H locs hR => ?_)
  replace hR : rB G A adr S (m2 X 28 f (nI (g + 1 + dd))) s.heap H locs := gw_B.to hR (by rw [m2_id h28])
  clear h28
  induction dd generalizing ls H locs with
  | zero =>
    refine lv_aload_n hx hb dX7_fly_23 rfl (lv_at hl 2 rfl) ?_
    refine rg_28 F hK hR dX7_fly_24 ?_
    refine lv_iload_n hx hb dX7_fly_27 rfl (lv_at hl 1 rfl) ?_
    refine ri_28 F hK hR (by omega) dX7_fly_28 ?_
    refine lv_eq (m2_at) ?_
    refine nv_if_le (by omega) hx hb dX7_fly_29 (tgt := 114) (by decide) (fun c_29 => absurd c_29 (by omega)) (fun c_29 => ?_)
    refine lv_aload_n hx hb dX7_fly_32 rfl (lv_at hl 2 rfl) ?_
    refine rg_28 F hK hR dX7_fly_33 ?_
    refine lv_iload_n hx hb dX7_fly_36 rfl (lv_at hl 1 rfl) ?_
    refine lv_dup2_11 hx hb dX7_fly_37 rfl rfl ?_
    refine ri_28 F hK hR (by omega) dX7_fly_38 ?_
    refine lv_eq (m2_at) ?_
    refine lv_iconst (v := nI 1) hx hb dX7_fly_39 (by decide) ?_
    refine nv_isub (by omega) hx hb dX7_fly_40 ?_
    refine rs_28 F hK hR (by omega) dX7_fly_41 (fun H locs hR => ?_)
    replace hR : rB G A adr S (m2 X 28 f (nI g)) s.heap H locs := gw_B.to hR (by rw [m2_tw]; rfl)
    refine lv_bipush (v := nI 10) hx hb dX7_fly_42 (by decide) ?_
    refine lv_iload_n hx hb dX7_fly_44 rfl (lv_at hl 1 rfl) ?_
    refine nv_imul hx hb dX7_fly_45 ?_
    refine lv_aload_n hx hb dX7_fly_46 rfl (lv_at hl 2 rfl) ?_
    refine rg_28 F hK hR dX7_fly_47 ?_
    refine lv_iload_n hx hb dX7_fly_50 rfl (lv_at hl 1 rfl) ?_
    refine ri_28 F hK hR (by omega) dX7_fly_51 ?_
    refine lv_eq (m2_at) ?_
    refine nv_iadd hx hb dX7_fly_52 ?_
    refine lv_istore_n (lv' := [(3, .int (nI (10 * f + g))), (2, .int (nI x)), (1, .int (nI f)), (0, .ref (adr 0))]) hx hb dX7_fly_53 rfl hl (by decide) rfl (fun ls hl => ?_)
    refine lv_aload_n hx hb dX7_fly_54 rfl (lv_at hl 3 rfl) ?_
    refine rg_31 F hK hR dX7_fly_55 ?_
    refine lv_eq ((m2_nk (by decide)).trans (hw)) ?_
    refine lv_bipush (v := nI 10) hx hb dX7_fly_58 (by decide) ?_
    refine lv_icmp_eq (tgt := 111) hx hb dX7_fly_60 (by decide) (fun c_60 => absurd c_60 (hc.1)) (fun c_60 => ?_)
    refine lv_aload_n hx hb dX7_fly_63 rfl (lv_at hl 3 rfl) ?_
    refine rg_30 F hK hR dX7_fly_64 ?_
    refine lv_iload_n hx hb dX7_fly_67 rfl (lv_at hl 0 rfl) ?_
    refine ri_30 F hK hR (by omega) dX7_fly_68 ?_
    refine lv_eq (m2_nk (by decide)) ?_
    refine lv_iconst (v := (-1)) hx hb dX7_fly_69 (by decide) ?_
    refine lv_icmp_eq (tgt := 86) hx hb dX7_fly_70 (by decide) (fun c_70 => ?_) (fun c_70 => ?_)
    · refine lv_aload_n hx hb dX7_fly_86 rfl (lv_at hl 3 rfl) ?_
      refine lv_iconst (v := (-1)) hx hb dX7_fly_87 (by decide) ?_
      refine rp_31 F hK hR dX7_fly_88 (fun H locs hR => ?_)
      refine lv_aload_n hx hb dX7_fly_91 rfl (lv_at hl 3 rfl) ?_
      refine rg_26 F hK hR dX7_fly_92 ?_
      refine lv_iload_n hx hb dX7_fly_95 rfl (lv_at hl 2 rfl) ?_
      refine lv_aload_n hx hb dX7_fly_96 rfl (lv_at hl 3 rfl) ?_
      refine rg_29 F hK hR dX7_fly_97 ?_
      refine lv_iload_n hx hb dX7_fly_100 rfl (lv_at hl 0 rfl) ?_
      refine ri_29 F hK hR (by omega) dX7_fly_101 ?_
      refine lv_eq ((m2_nk (by decide)).trans (m2_nk (by decide))) ?_
      refine rs_26 F hK hR (by omega) dX7_fly_102 (fun H locs hR => ?_)
      refine lv_aload_n hx hb dX7_fly_103 rfl (lv_at hl 3 rfl) ?_
      refine rg_27 F hK hR dX7_fly_104 ?_
      refine lv_iload_n hx hb dX7_fly_107 rfl (lv_at hl 2 rfl) ?_
      refine lv_iconst (v := nI 0) hx hb dX7_fly_108 (by decide) ?_
      refine rs_27 F hK hR (by omega) dX7_fly_109 (fun H locs hR => ?_)
      exact gr_v F hr hlk hK hR dX7_fly_110 (rfl)
    · refine lv_aload_n hx hb dX7_fly_73 rfl (lv_at hl 3 rfl) ?_
      refine rg_30 F hK hR dX7_fly_74 ?_
      refine lv_iload_n hx hb dX7_fly_77 rfl (lv_at hl 0 rfl) ?_
      refine ri_30 F hK hR (by omega) dX7_fly_78 ?_
      refine lv_eq (m2_nk (by decide)) ?_
      refine lv_aload_n hx hb dX7_fly_79 rfl (lv_at hl 3 rfl) ?_
      refine rg_31 F hK hR dX7_fly_80 ?_
      refine lv_eq ((m2_nk (by decide)).trans (hw)) ?_
      refine lv_icmp_ne (tgt := 111) hx hb dX7_fly_83 (by decide) (fun c_83 => absurd c_83 (fun q => hc.2.elim c_70 q)) (fun c_83 => ?_)
      refine lv_aload_n hx hb dX7_fly_86 rfl (lv_at hl 3 rfl) ?_
      refine lv_iconst (v := (-1)) hx hb dX7_fly_87 (by decide) ?_
      refine rp_31 F hK hR dX7_fly_88 (fun H locs hR => ?_)
      refine lv_aload_n hx hb dX7_fly_91 rfl (lv_at hl 3 rfl) ?_
      refine rg_26 F hK hR dX7_fly_92 ?_
      refine lv_iload_n hx hb dX7_fly_95 rfl (lv_at hl 2 rfl) ?_
      refine lv_aload_n hx hb dX7_fly_96 rfl (lv_at hl 3 rfl) ?_
      refine rg_29 F hK hR dX7_fly_97 ?_
      refine lv_iload_n hx hb dX7_fly_100 rfl (lv_at hl 0 rfl) ?_
      refine ri_29 F hK hR (by omega) dX7_fly_101 ?_
      refine lv_eq ((m2_nk (by decide)).trans (m2_nk (by decide))) ?_
      refine rs_26 F hK hR (by omega) dX7_fly_102 (fun H locs hR => ?_)
      refine lv_aload_n hx hb dX7_fly_103 rfl (lv_at hl 3 rfl) ?_
      refine rg_27 F hK hR dX7_fly_104 ?_
      refine lv_iload_n hx hb dX7_fly_107 rfl (lv_at hl 2 rfl) ?_
      refine lv_iconst (v := nI 0) hx hb dX7_fly_108 (by decide) ?_
      refine rs_27 F hK hR (by omega) dX7_fly_109 (fun H locs hR => ?_)
      exact gr_v F hr hlk hK hR dX7_fly_110 (rfl)
  | succ dd ih =>
    refine lv_aload_n hx hb dX7_fly_23 rfl (lv_at hl 2 rfl) ?_
    refine rg_28 F hK hR dX7_fly_24 ?_
    refine lv_iload_n hx hb dX7_fly_27 rfl (lv_at hl 1 rfl) ?_
    refine ri_28 F hK hR (by omega) dX7_fly_28 ?_
    refine lv_eq (m2_at) ?_
    refine nv_if_le (by omega) hx hb dX7_fly_29 (tgt := 114) (by decide) (fun c_29 => absurd c_29 (by omega)) (fun c_29 => ?_)
    refine lv_aload_n hx hb dX7_fly_32 rfl (lv_at hl 2 rfl) ?_
    refine rg_28 F hK hR dX7_fly_33 ?_
    refine lv_iload_n hx hb dX7_fly_36 rfl (lv_at hl 1 rfl) ?_
    refine lv_dup2_11 hx hb dX7_fly_37 rfl rfl ?_
    refine ri_28 F hK hR (by omega) dX7_fly_38 ?_
    refine lv_eq (m2_at) ?_
    refine lv_iconst (v := nI 1) hx hb dX7_fly_39 (by decide) ?_
    refine nv_isub (by omega) hx hb dX7_fly_40 ?_
    refine rs_28 F hK hR (by omega) dX7_fly_41 (fun H locs hR => ?_)
    replace hR : rB G A adr S (m2 X 28 f (nI (g + 1 + dd))) s.heap H locs := gw_B.to hR (by rw [m2_tw]; rfl)
    refine lv_bipush (v := nI 10) hx hb dX7_fly_42 (by decide) ?_
    refine lv_iload_n hx hb dX7_fly_44 rfl (lv_at hl 1 rfl) ?_
    refine nv_imul hx hb dX7_fly_45 ?_
    refine lv_aload_n hx hb dX7_fly_46 rfl (lv_at hl 2 rfl) ?_
    refine rg_28 F hK hR dX7_fly_47 ?_
    refine lv_iload_n hx hb dX7_fly_50 rfl (lv_at hl 1 rfl) ?_
    refine ri_28 F hK hR (by omega) dX7_fly_51 ?_
    refine lv_eq (m2_at) ?_
    refine nv_iadd hx hb dX7_fly_52 ?_
    refine lv_istore_n (lv' := [(3, .int (nI (10 * f + (g + 1 + dd)))), (2, .int (nI x)), (1, .int (nI f)), (0, .ref (adr 0))]) hx hb dX7_fly_53 rfl hl (by decide) rfl (fun ls hl => ?_)
    refine lv_aload_n hx hb dX7_fly_54 rfl (lv_at hl 3 rfl) ?_
    refine rg_31 F hK hR dX7_fly_55 ?_
    refine lv_eq ((m2_nk (by decide)).trans (hw)) ?_
    refine lv_bipush (v := nI 10) hx hb dX7_fly_58 (by decide) ?_
    refine lv_icmp_eq (tgt := 111) hx hb dX7_fly_60 (by decide) (fun c_60 => ?_) (fun c_60 => ?_)
    · refine lv_goto (tgt := 23) hx hb dX7_fly_111 (by decide) ?_
      exact ih (by omega) (fun j h1 h2 => hn j h1 (by omega)) _ (lv_sub hl [1, 2, 3] rfl) _ _ hR
    · refine lv_aload_n hx hb dX7_fly_63 rfl (lv_at hl 3 rfl) ?_
      refine rg_30 F hK hR dX7_fly_64 ?_
      refine lv_iload_n hx hb dX7_fly_67 rfl (lv_at hl 0 rfl) ?_
      refine ri_30 F hK hR (by omega) dX7_fly_68 ?_
      refine lv_eq (m2_nk (by decide)) ?_
      refine lv_iconst (v := (-1)) hx hb dX7_fly_69 (by decide) ?_
      refine lv_icmp_eq (tgt := 86) hx hb dX7_fly_70 (by decide) (fun c_70 => absurd c_70 (fun q => hn (g + 1 + dd) (by omega) (by omega) (cat_1 c_60 q))) (fun c_70 => ?_)
      refine lv_aload_n hx hb dX7_fly_73 rfl (lv_at hl 3 rfl) ?_
      refine rg_30 F hK hR dX7_fly_74 ?_
      refine lv_iload_n hx hb dX7_fly_77 rfl (lv_at hl 0 rfl) ?_
      refine ri_30 F hK hR (by omega) dX7_fly_78 ?_
      refine lv_eq (m2_nk (by decide)) ?_
      refine lv_aload_n hx hb dX7_fly_79 rfl (lv_at hl 3 rfl) ?_
      refine rg_31 F hK hR dX7_fly_80 ?_
      refine lv_eq ((m2_nk (by decide)).trans (hw)) ?_
      refine lv_icmp_ne (tgt := 111) hx hb dX7_fly_83 (by decide) (fun c_83 => ?_) (fun c_83 => absurd c_83 ((fun q => hn (g + 1 + dd) (by omega) (by omega) (cat_2 c_60 q))))
      refine lv_goto (tgt := 23) hx hb dX7_fly_111 (by decide) ?_
      exact ih (by omega) (fun j h1 h2 => hn j h1 (by omega)) _ (lv_sub hl [1, 2, 3] rfl) _ _ hR
set_option maxHeartbeats 4000000 in
set_option maxRecDepth 100000 in
/-- fly: out of a method -/
theorem c_X7_flyN (l : Launch) (G : gw_G) (A : Nat → Prop) (adr : Nat → Nat) (S X : Nat → Nat → Int32) (f x k d : Nat) (w : Int32) (hf0 : X 22 0 = nI (f + 1)) (hf : f < 300) (h24 : X 24 f = nI x) (hw : X 31 0 = w) (h23 : X 23 f = nI 0) (h28 : X 28 f = nI k) (hk : k ≤ 10) (hn : ∀ j, j < k → ¬ rf_cat X f j w) (hd1 : X 21 0 = nI (d + 1)) : gm l yX7_fly cX7_fly 4 none (rmL 1) 0 0 A [.ref (adr 0)] (gW G A adr (rcel G adr S X)) (gW G A adr (rcel G adr S (m2 (m2 (m2 X 28 f (nI 0)) 21 0 (nI d)) 22 0 (nI f)))) none := by
  refine gm_of (own := RX7) (by decide) rfl (Nat.le_of_ble_eq_true rfl) ?_
  intro p e s m below meth c ls F hml hr hlk hnm hK hR hl
  have hx := F.1
  have hb := F.2.1
  have hl : lv_has ls 4 [(0, .ref (adr 0))] := hl
  refine lv_aload_n hx hb dX7_fly_0 rfl (lv_at hl 0 rfl) ?_
  refine rg_22 F hK hR dX7_fly_1 ?_
  refine lv_eq (hf0) ?_
  refine lv_iconst (v := nI 1) hx hb dX7_fly_4 (by decide) ?_
  refine nv_isub (by omega) hx hb dX7_fly_5 ?_
  refine lv_istore_n (lv' := [(1, .int (nI (f + 1 - 1))), (0, .ref (adr 0))]) hx hb dX7_fly_6 rfl hl (by decide) rfl (fun ls hl => ?_)
  replace hl : lv_has ls 4 [(1, .int (nI f)), (0, .ref (adr 0))] := hl
  refine lv_aload_n hx hb dX7_fly_7 rfl (lv_at hl 1 rfl) ?_
  refine rg_24 F hK hR dX7_fly_8 ?_
  refine lv_iload_n hx hb dX7_fly_11 rfl (lv_at hl 0 rfl) ?_
  refine ri_24 F hK hR (by omega) dX7_fly_12 ?_
  refine lv_eq (h24) ?_
  refine lv_istore_n (lv' := [(2, .int (nI x)), (1, .int (nI f)), (0, .ref (adr 0))]) hx hb dX7_fly_13 rfl hl (by decide) rfl (fun ls hl => ?_)
  refine lv_aload_n hx hb dX7_fly_14 rfl (lv_at hl 2 rfl) ?_
  refine rg_23 F hK hR dX7_fly_15 ?_
  refine lv_iload_n hx hb dX7_fly_18 rfl (lv_at hl 1 rfl) ?_
  refine ri_23 F hK hR (by omega) dX7_fly_19 ?_
  refine lv_eq (h23) ?_
  refine nv_if_ne (by omega) hx hb dX7_fly_20 (tgt := 127) (by decide) (fun c_20 => absurd c_20 (by omega)) (fun c_20 => ?_)
  refine lp_gen hR (fun H locs hR => ?_)
  replace hR : rB G A adr S (m2 X 28 f (nI k)) s.heap H locs := gw_B.to hR (by rw [m2_id h28])
  clear h28
  induction k generalizing ls H locs with
  | zero =>
    refine lv_aload_n hx hb dX7_fly_23 rfl (lv_at hl 2 rfl) ?_
    refine rg_28 F hK hR dX7_fly_24 ?_
    refine lv_iload_n hx hb dX7_fly_27 rfl (lv_at hl 1 rfl) ?_
    refine ri_28 F hK hR (by omega) dX7_fly_28 ?_
    refine lv_eq (m2_at) ?_
    refine nv_if_le (by omega) hx hb dX7_fly_29 (tgt := 114) (by decide) (fun c_29 => ?_) (fun c_29 => absurd c_29 (by omega))
    refine lv_aload_n hx hb dX7_fly_114 rfl (lv_at hl 2 rfl) ?_
    refine lv_dup hx hb dX7_fly_115 rfl ?_
    refine rg_21 F hK hR dX7_fly_116 ?_
    refine lv_eq ((m2_nk (by decide)).trans (hd1)) ?_
    refine lv_iconst (v := nI 1) hx hb dX7_fly_119 (by decide) ?_
    refine nv_isub (by omega) hx hb dX7_fly_120 ?_
    refine rp_21 F hK hR dX7_fly_121 (fun H locs hR => ?_)
    refine lv_goto (tgt := 177) hx hb dX7_fly_124 (by decide) ?_
    refine lv_aload_n hx hb dX7_fly_177 rfl (lv_at hl 2 rfl) ?_
    refine lv_dup hx hb dX7_fly_178 rfl ?_
    refine rg_22 F hK hR dX7_fly_179 ?_
    refine lv_eq (((m2_nk (by decide)).trans (m2_nk (by decide))).trans (hf0)) ?_
    refine lv_iconst (v := nI 1) hx hb dX7_fly_182 (by decide) ?_
    refine nv_isub (by omega) hx hb dX7_fly_183 ?_
    refine rp_22 F hK hR dX7_fly_184 (fun H locs hR => ?_)
    exact gr_v F hr hlk hK hR dX7_fly_187 (rfl)
  | succ k ih =>
    refine lv_aload_n hx hb dX7_fly_23 rfl (lv_at hl 2 rfl) ?_
    refine rg_28 F hK hR dX7_fly_24 ?_
    refine lv_iload_n hx hb dX7_fly_27 rfl (lv_at hl 1 rfl) ?_
    refine ri_28 F hK hR (by omega) dX7_fly_28 ?_
    refine lv_eq (m2_at) ?_
    refine nv_if_le (by omega) hx hb dX7_fly_29 (tgt := 114) (by decide) (fun c_29 => absurd c_29 (by omega)) (fun c_29 => ?_)
    refine lv_aload_n hx hb dX7_fly_32 rfl (lv_at hl 2 rfl) ?_
    refine rg_28 F hK hR dX7_fly_33 ?_
    refine lv_iload_n hx hb dX7_fly_36 rfl (lv_at hl 1 rfl) ?_
    refine lv_dup2_11 hx hb dX7_fly_37 rfl rfl ?_
    refine ri_28 F hK hR (by omega) dX7_fly_38 ?_
    refine lv_eq (m2_at) ?_
    refine lv_iconst (v := nI 1) hx hb dX7_fly_39 (by decide) ?_
    refine nv_isub (by omega) hx hb dX7_fly_40 ?_
    refine rs_28 F hK hR (by omega) dX7_fly_41 (fun H locs hR => ?_)
    replace hR : rB G A adr S (m2 X 28 f (nI k)) s.heap H locs := gw_B.to hR (by rw [m2_tw]; rfl)
    refine lv_bipush (v := nI 10) hx hb dX7_fly_42 (by decide) ?_
    refine lv_iload_n hx hb dX7_fly_44 rfl (lv_at hl 1 rfl) ?_
    refine nv_imul hx hb dX7_fly_45 ?_
    refine lv_aload_n hx hb dX7_fly_46 rfl (lv_at hl 2 rfl) ?_
    refine rg_28 F hK hR dX7_fly_47 ?_
    refine lv_iload_n hx hb dX7_fly_50 rfl (lv_at hl 1 rfl) ?_
    refine ri_28 F hK hR (by omega) dX7_fly_51 ?_
    refine lv_eq (m2_at) ?_
    refine nv_iadd hx hb dX7_fly_52 ?_
    refine lv_istore_n (lv' := [(3, .int (nI (10 * f + k))), (2, .int (nI x)), (1, .int (nI f)), (0, .ref (adr 0))]) hx hb dX7_fly_53 rfl hl (by decide) rfl (fun ls hl => ?_)
    refine lv_aload_n hx hb dX7_fly_54 rfl (lv_at hl 3 rfl) ?_
    refine rg_31 F hK hR dX7_fly_55 ?_
    refine lv_eq ((m2_nk (by decide)).trans (hw)) ?_
    refine lv_bipush (v := nI 10) hx hb dX7_fly_58 (by decide) ?_
    refine lv_icmp_eq (tgt := 111) hx hb dX7_fly_60 (by decide) (fun c_60 => ?_) (fun c_60 => ?_)
    · refine lv_goto (tgt := 23) hx hb dX7_fly_111 (by decide) ?_
      exact ih (by omega) (fun j h => hn j (by omega)) _ (lv_sub hl [1, 2, 3] rfl) _ _ hR
    · refine lv_aload_n hx hb dX7_fly_63 rfl (lv_at hl 3 rfl) ?_
      refine rg_30 F hK hR dX7_fly_64 ?_
      refine lv_iload_n hx hb dX7_fly_67 rfl (lv_at hl 0 rfl) ?_
      refine ri_30 F hK hR (by omega) dX7_fly_68 ?_
      refine lv_eq (m2_nk (by decide)) ?_
      refine lv_iconst (v := (-1)) hx hb dX7_fly_69 (by decide) ?_
      refine lv_icmp_eq (tgt := 86) hx hb dX7_fly_70 (by decide) (fun c_70 => absurd c_70 (fun q => hn k (by omega) (cat_1 c_60 q))) (fun c_70 => ?_)
      refine lv_aload_n hx hb dX7_fly_73 rfl (lv_at hl 3 rfl) ?_
      refine rg_30 F hK hR dX7_fly_74 ?_
      refine lv_iload_n hx hb dX7_fly_77 rfl (lv_at hl 0 rfl) ?_
      refine ri_30 F hK hR (by omega) dX7_fly_78 ?_
      refine lv_eq (m2_nk (by decide)) ?_
      refine lv_aload_n hx hb dX7_fly_79 rfl (lv_at hl 3 rfl) ?_
      refine rg_31 F hK hR dX7_fly_80 ?_
      refine lv_eq ((m2_nk (by decide)).trans (hw)) ?_
      refine lv_icmp_ne (tgt := 111) hx hb dX7_fly_83 (by decide) (fun c_83 => ?_) (fun c_83 => absurd c_83 ((fun q => hn k (by omega) (cat_2 c_60 q))))
      refine lv_goto (tgt := 23) hx hb dX7_fly_111 (by decide) ?_
      exact ih (by omega) (fun j h => hn j (by omega)) _ (lv_sub hl [1, 2, 3] rfl) _ _ hR
set_option maxHeartbeats 4000000 in
set_option maxRecDepth 100000 in
/-- fly: a start fails by 0 .. 6 -/
theorem c_X7_flyS (l : Launch) (G : gw_G) (A : Nat → Prop) (adr : Nat → Nat) (S X : Nat → Nat → Int32) (f x ev : Nat) (w : Int32) (hf0 : X 22 0 = nI (f + 1)) (hf : f < 300) (h24 : X 24 f = nI x) (hw : X 31 0 = w) (h23 : X 23 f = nI 1) (hxx : x < 12) (hev : S 13 0 = nI ev) (he : ev ≤ 60) (hw6 : w ≤ nI 6) : gm l yX7_fly cX7_fly 4 none (rmL 1) 0 0 A [.ref (adr 0)] (gW G A adr (rcel G adr S X)) (gW G A adr (rcel G adr (sp_ar (sp_tell (m2 S 12 x (nI 3)) ev (nI 2) (nI x)) (nI 7)) (m2 (m2 (m2 X 19 0 w) 31 0 (nI 7)) 22 0 (nI f)))) none := by
  refine gm_of (own := RX7) (by decide) rfl (Nat.le_of_ble_eq_true rfl) ?_
  intro p e s m below meth c ls F hml hr hlk hnm hK hR hl
  have hx := F.1
  have hb := F.2.1
  have hl : lv_has ls 4 [(0, .ref (adr 0))] := hl
  refine lv_aload_n hx hb dX7_fly_0 rfl (lv_at hl 0 rfl) ?_
  refine rg_22 F hK hR dX7_fly_1 ?_
  refine lv_eq (hf0) ?_
  refine lv_iconst (v := nI 1) hx hb dX7_fly_4 (by decide) ?_
  refine nv_isub (by omega) hx hb dX7_fly_5 ?_
  refine lv_istore_n (lv' := [(1, .int (nI (f + 1 - 1))), (0, .ref (adr 0))]) hx hb dX7_fly_6 rfl hl (by decide) rfl (fun ls hl => ?_)
  replace hl : lv_has ls 4 [(1, .int (nI f)), (0, .ref (adr 0))] := hl
  refine lv_aload_n hx hb dX7_fly_7 rfl (lv_at hl 1 rfl) ?_
  refine rg_24 F hK hR dX7_fly_8 ?_
  refine lv_iload_n hx hb dX7_fly_11 rfl (lv_at hl 0 rfl) ?_
  refine ri_24 F hK hR (by omega) dX7_fly_12 ?_
  refine lv_eq (h24) ?_
  refine lv_istore_n (lv' := [(2, .int (nI x)), (1, .int (nI f)), (0, .ref (adr 0))]) hx hb dX7_fly_13 rfl hl (by decide) rfl (fun ls hl => ?_)
  refine lv_aload_n hx hb dX7_fly_14 rfl (lv_at hl 2 rfl) ?_
  refine rg_23 F hK hR dX7_fly_15 ?_
  refine lv_iload_n hx hb dX7_fly_18 rfl (lv_at hl 1 rfl) ?_
  refine ri_23 F hK hR (by omega) dX7_fly_19 ?_
  refine lv_eq (h23) ?_
  refine nv_if_ne (by omega) hx hb dX7_fly_20 (tgt := 127) (by decide) (fun c_20 => ?_) (fun c_20 => absurd c_20 (by omega))
  refine lv_aload_n hx hb dX7_fly_127 rfl (lv_at hl 2 rfl) ?_
  refine rg_23 F hK hR dX7_fly_128 ?_
  refine lv_iload_n hx hb dX7_fly_131 rfl (lv_at hl 1 rfl) ?_
  refine ri_23 F hK hR (by omega) dX7_fly_132 ?_
  refine lv_eq (h23) ?_
  refine lv_iconst (v := nI 1) hx hb dX7_fly_133 (by decide) ?_
  refine nv_icmp_ne (by omega) (by omega) hx hb dX7_fly_134 (tgt := 177) (by decide) (fun c_134 => absurd c_134 (by omega)) (fun c_134 => ?_)
  refine lv_aload_n hx hb dX7_fly_137 rfl (lv_at hl 2 rfl) ?_
  refine rg_12 F hK hR dX7_fly_138 ?_
  refine lv_iload_n hx hb dX7_fly_141 rfl (lv_at hl 0 rfl) ?_
  refine lv_iconst (v := nI 3) hx hb dX7_fly_142 (by decide) ?_
  refine rs_12 F hK hR (by omega) dX7_fly_143 (fun H locs hR => ?_)
  refine lv_aload_n hx hb dX7_fly_144 rfl (lv_at hl 2 rfl) ?_
  refine lv_iconst (v := nI 2) hx hb dX7_fly_145 (by decide) ?_
  refine lv_iload_n hx hb dX7_fly_146 rfl (lv_at hl 0 rfl) ?_
  refine gcVv (As := [.int (nI 2), .int (nI x)]) F hK hR hml cv_X7_118 (o := 0) rfl rfl rfl (c_X7_tell l G A adr (m2 S 12 x (nI 3)) X ev (nI 2) (nI x) ((m2_nk (by decide)).trans (hev)) (by omega)) ⟨rfl, rfl⟩ ⟨Nat.le_of_ble_eq_true rfl, Nat.le_of_ble_eq_true rfl⟩ rfl rfl hl.1 (Nat.le_of_ble_eq_true rfl) dX7_fly_147 ⟨Nat.zero_le _, Nat.zero_le _⟩ (fun H locs hR => ?_)
  refine lv_aload_n hx hb dX7_fly_150 rfl (lv_at hl 2 rfl) ?_
  refine rg_31 F hK hR dX7_fly_151 ?_
  refine lv_eq (hw) ?_
  refine lv_bipush (v := nI 6) hx hb dX7_fly_154 (by decide) ?_
  refine lv_icmp_gt (tgt := 177) hx hb dX7_fly_156 (by decide) (fun c_156 => absurd c_156 (Int32.not_lt.mpr hw6)) (fun c_156 => ?_)
  refine lv_aload_n hx hb dX7_fly_159 rfl (lv_at hl 2 rfl) ?_
  refine lv_aload_n hx hb dX7_fly_160 rfl (lv_at hl 2 rfl) ?_
  refine rg_31 F hK hR dX7_fly_161 ?_
  refine lv_eq (hw) ?_
  refine rp_19 F hK hR dX7_fly_164 (fun H locs hR => ?_)
  refine lv_aload_n hx hb dX7_fly_167 rfl (lv_at hl 2 rfl) ?_
  refine lv_aload_n hx hb dX7_fly_168 rfl (lv_at hl 2 rfl) ?_
  refine lv_bipush (v := nI 7) hx hb dX7_fly_169 (by decide) ?_
  refine gcVi (As := [.int (nI 7)]) F hK hR hml cv_X7_111 (o := 0) rfl rfl rfl (c_X7_arise l G A adr (sp_tell (m2 S 12 x (nI 3)) ev (nI 2) (nI x)) (m2 X 19 0 w) (nI 7)) ⟨rfl, rfl⟩ ⟨Nat.le_of_ble_eq_true rfl, Nat.le_of_ble_eq_true rfl⟩ rfl rfl hl.1 (Nat.le_of_ble_eq_true rfl) dX7_fly_171 ⟨Nat.zero_le _, Nat.zero_le _⟩ (fun H locs hR => ?_)
  refine rp_31 F hK hR dX7_fly_174 (fun H locs hR => ?_)
  refine lv_aload_n hx hb dX7_fly_177 rfl (lv_at hl 2 rfl) ?_
  refine lv_dup hx hb dX7_fly_178 rfl ?_
  refine rg_22 F hK hR dX7_fly_179 ?_
  refine lv_eq (((m2_nk (by decide)).trans (m2_nk (by decide))).trans (hf0)) ?_
  refine lv_iconst (v := nI 1) hx hb dX7_fly_182 (by decide) ?_
  refine nv_isub (by omega) hx hb dX7_fly_183 ?_
  refine rp_22 F hK hR dX7_fly_184 (fun H locs hR => ?_)
  exact gr_v F hr hlk hK hR dX7_fly_187 (rfl)
set_option maxHeartbeats 4000000 in
set_option maxRecDepth 100000 in
/-- fly: a start fails by 7 and above -/
theorem c_X7_flyT (l : Launch) (G : gw_G) (A : Nat → Prop) (adr : Nat → Nat) (S X : Nat → Nat → Int32) (f x ev : Nat) (w : Int32) (hf0 : X 22 0 = nI (f + 1)) (hf : f < 300) (h24 : X 24 f = nI x) (hw : X 31 0 = w) (h23 : X 23 f = nI 1) (hxx : x < 12) (hev : S 13 0 = nI ev) (he : ev ≤ 60) (hw6 : nI 6 < w) : gm l yX7_fly cX7_fly 4 none (rmL 1) 0 0 A [.ref (adr 0)] (gW G A adr (rcel G adr S X)) (gW G A adr (rcel G adr (sp_tell (m2 S 12 x (nI 3)) ev (nI 2) (nI x)) (m2 X 22 0 (nI f)))) none := by
  refine gm_of (own := RX7) (by decide) rfl (Nat.le_of_ble_eq_true rfl) ?_
  intro p e s m below meth c ls F hml hr hlk hnm hK hR hl
  have hx := F.1
  have hb := F.2.1
  have hl : lv_has ls 4 [(0, .ref (adr 0))] := hl
  refine lv_aload_n hx hb dX7_fly_0 rfl (lv_at hl 0 rfl) ?_
  refine rg_22 F hK hR dX7_fly_1 ?_
  refine lv_eq (hf0) ?_
  refine lv_iconst (v := nI 1) hx hb dX7_fly_4 (by decide) ?_
  refine nv_isub (by omega) hx hb dX7_fly_5 ?_
  refine lv_istore_n (lv' := [(1, .int (nI (f + 1 - 1))), (0, .ref (adr 0))]) hx hb dX7_fly_6 rfl hl (by decide) rfl (fun ls hl => ?_)
  replace hl : lv_has ls 4 [(1, .int (nI f)), (0, .ref (adr 0))] := hl
  refine lv_aload_n hx hb dX7_fly_7 rfl (lv_at hl 1 rfl) ?_
  refine rg_24 F hK hR dX7_fly_8 ?_
  refine lv_iload_n hx hb dX7_fly_11 rfl (lv_at hl 0 rfl) ?_
  refine ri_24 F hK hR (by omega) dX7_fly_12 ?_
  refine lv_eq (h24) ?_
  refine lv_istore_n (lv' := [(2, .int (nI x)), (1, .int (nI f)), (0, .ref (adr 0))]) hx hb dX7_fly_13 rfl hl (by decide) rfl (fun ls hl => ?_)
  refine lv_aload_n hx hb dX7_fly_14 rfl (lv_at hl 2 rfl) ?_
  refine rg_23 F hK hR dX7_fly_15 ?_
  refine lv_iload_n hx hb dX7_fly_18 rfl (lv_at hl 1 rfl) ?_
  refine ri_23 F hK hR (by omega) dX7_fly_19 ?_
  refine lv_eq (h23) ?_
  refine nv_if_ne (by omega) hx hb dX7_fly_20 (tgt := 127) (by decide) (fun c_20 => ?_) (fun c_20 => absurd c_20 (by omega))
  refine lv_aload_n hx hb dX7_fly_127 rfl (lv_at hl 2 rfl) ?_
  refine rg_23 F hK hR dX7_fly_128 ?_
  refine lv_iload_n hx hb dX7_fly_131 rfl (lv_at hl 1 rfl) ?_
  refine ri_23 F hK hR (by omega) dX7_fly_132 ?_
  refine lv_eq (h23) ?_
  refine lv_iconst (v := nI 1) hx hb dX7_fly_133 (by decide) ?_
  refine nv_icmp_ne (by omega) (by omega) hx hb dX7_fly_134 (tgt := 177) (by decide) (fun c_134 => absurd c_134 (by omega)) (fun c_134 => ?_)
  refine lv_aload_n hx hb dX7_fly_137 rfl (lv_at hl 2 rfl) ?_
  refine rg_12 F hK hR dX7_fly_138 ?_
  refine lv_iload_n hx hb dX7_fly_141 rfl (lv_at hl 0 rfl) ?_
  refine lv_iconst (v := nI 3) hx hb dX7_fly_142 (by decide) ?_
  refine rs_12 F hK hR (by omega) dX7_fly_143 (fun H locs hR => ?_)
  refine lv_aload_n hx hb dX7_fly_144 rfl (lv_at hl 2 rfl) ?_
  refine lv_iconst (v := nI 2) hx hb dX7_fly_145 (by decide) ?_
  refine lv_iload_n hx hb dX7_fly_146 rfl (lv_at hl 0 rfl) ?_
  refine gcVv (As := [.int (nI 2), .int (nI x)]) F hK hR hml cv_X7_118 (o := 0) rfl rfl rfl (c_X7_tell l G A adr (m2 S 12 x (nI 3)) X ev (nI 2) (nI x) ((m2_nk (by decide)).trans (hev)) (by omega)) ⟨rfl, rfl⟩ ⟨Nat.le_of_ble_eq_true rfl, Nat.le_of_ble_eq_true rfl⟩ rfl rfl hl.1 (Nat.le_of_ble_eq_true rfl) dX7_fly_147 ⟨Nat.zero_le _, Nat.zero_le _⟩ (fun H locs hR => ?_)
  refine lv_aload_n hx hb dX7_fly_150 rfl (lv_at hl 2 rfl) ?_
  refine rg_31 F hK hR dX7_fly_151 ?_
  refine lv_eq (hw) ?_
  refine lv_bipush (v := nI 6) hx hb dX7_fly_154 (by decide) ?_
  refine lv_icmp_gt (tgt := 177) hx hb dX7_fly_156 (by decide) (fun c_156 => ?_) (fun c_156 => absurd hw6 c_156)
  refine lv_aload_n hx hb dX7_fly_177 rfl (lv_at hl 2 rfl) ?_
  refine lv_dup hx hb dX7_fly_178 rfl ?_
  refine rg_22 F hK hR dX7_fly_179 ?_
  refine lv_eq (hf0) ?_
  refine lv_iconst (v := nI 1) hx hb dX7_fly_182 (by decide) ?_
  refine nv_isub (by omega) hx hb dX7_fly_183 ?_
  refine rp_22 F hK hR dX7_fly_184 (fun H locs hR => ?_)
  exact gr_v F hr hlk hK hR dX7_fly_187 (rfl)
set_option maxHeartbeats 4000000 in
set_option maxRecDepth 100000 in
/-- fly: out of a look, of a run -/
theorem c_X7_flyO (l : Launch) (G : gw_G) (A : Nat → Prop) (adr : Nat → Nat) (S X : Nat → Nat → Int32) (f x so : Nat) (w : Int32) (hf0 : X 22 0 = nI (f + 1)) (hf : f < 300) (h24 : X 24 f = nI x) (hw : X 31 0 = w) (h23 : X 23 f = nI so) (hs : 2 ≤ so) (hs3 : so ≤ 3) : gm l yX7_fly cX7_fly 4 none (rmL 1) 0 0 A [.ref (adr 0)] (gW G A adr (rcel G adr S X)) (gW G A adr (rcel G adr S (m2 X 22 0 (nI f)))) none := by
  refine gm_of (own := RX7) (by decide) rfl (Nat.le_of_ble_eq_true rfl) ?_
  intro p e s m below meth c ls F hml hr hlk hnm hK hR hl
  have hx := F.1
  have hb := F.2.1
  have hl : lv_has ls 4 [(0, .ref (adr 0))] := hl
  refine lv_aload_n hx hb dX7_fly_0 rfl (lv_at hl 0 rfl) ?_
  refine rg_22 F hK hR dX7_fly_1 ?_
  refine lv_eq (hf0) ?_
  refine lv_iconst (v := nI 1) hx hb dX7_fly_4 (by decide) ?_
  refine nv_isub (by omega) hx hb dX7_fly_5 ?_
  refine lv_istore_n (lv' := [(1, .int (nI (f + 1 - 1))), (0, .ref (adr 0))]) hx hb dX7_fly_6 rfl hl (by decide) rfl (fun ls hl => ?_)
  replace hl : lv_has ls 4 [(1, .int (nI f)), (0, .ref (adr 0))] := hl
  refine lv_aload_n hx hb dX7_fly_7 rfl (lv_at hl 1 rfl) ?_
  refine rg_24 F hK hR dX7_fly_8 ?_
  refine lv_iload_n hx hb dX7_fly_11 rfl (lv_at hl 0 rfl) ?_
  refine ri_24 F hK hR (by omega) dX7_fly_12 ?_
  refine lv_eq (h24) ?_
  refine lv_istore_n (lv' := [(2, .int (nI x)), (1, .int (nI f)), (0, .ref (adr 0))]) hx hb dX7_fly_13 rfl hl (by decide) rfl (fun ls hl => ?_)
  refine lv_aload_n hx hb dX7_fly_14 rfl (lv_at hl 2 rfl) ?_
  refine rg_23 F hK hR dX7_fly_15 ?_
  refine lv_iload_n hx hb dX7_fly_18 rfl (lv_at hl 1 rfl) ?_
  refine ri_23 F hK hR (by omega) dX7_fly_19 ?_
  refine lv_eq (h23) ?_
  refine nv_if_ne (by omega) hx hb dX7_fly_20 (tgt := 127) (by decide) (fun c_20 => ?_) (fun c_20 => absurd c_20 (by omega))
  refine lv_aload_n hx hb dX7_fly_127 rfl (lv_at hl 2 rfl) ?_
  refine rg_23 F hK hR dX7_fly_128 ?_
  refine lv_iload_n hx hb dX7_fly_131 rfl (lv_at hl 1 rfl) ?_
  refine ri_23 F hK hR (by omega) dX7_fly_132 ?_
  refine lv_eq (h23) ?_
  refine lv_iconst (v := nI 1) hx hb dX7_fly_133 (by decide) ?_
  refine nv_icmp_ne (by omega) (by omega) hx hb dX7_fly_134 (tgt := 177) (by decide) (fun c_134 => ?_) (fun c_134 => absurd c_134 (by omega))
  refine lv_aload_n hx hb dX7_fly_177 rfl (lv_at hl 2 rfl) ?_
  refine lv_dup hx hb dX7_fly_178 rfl ?_
  refine rg_22 F hK hR dX7_fly_179 ?_
  refine lv_eq (hf0) ?_
  refine lv_iconst (v := nI 1) hx hb dX7_fly_182 (by decide) ?_
  refine nv_isub (by omega) hx hb dX7_fly_183 ?_
  refine rp_22 F hK hR dX7_fly_184 (fun H locs hR => ?_)
  exact gr_v F hr hlk hK hR dX7_fly_187 (rfl)
