/-! THE REFERENCE, 7: step, run -/
set_option maxHeartbeats 4000000 in
set_option maxRecDepth 100000 in
theorem c_X7_step0 (l : Launch) (G : gw_G) (A : Nat → Prop) (adr : Nat → Nat) (S X : Nat → Nat → Int32) (f x : Nat) (S9 X9 : Nat → Nat → Int32) (hf0 : X 22 0 = nI (f + 1)) (hf : f + 1 < 300) (h24 : X 24 f = nI x) (hxx : x < 12) (h23 : X 23 f = nI 0) (hM : gm l yX7_goOn cX7_goOn 6 none (rmL 4) 0 0 A [.ref (adr 0), .int (nI f)] (gW G A adr (rcel G adr S X)) (gW G A adr (rcel G adr S9 X9)) none) : gm l yX7_step cX7_step 3 none (rmL 5) 0 0 A [.ref (adr 0)] (gW G A adr (rcel G adr S X)) (gW G A adr (rcel G adr S9 X9)) none := by
  refine gm_of (own := RX7) (by decide) rfl (Nat.le_of_ble_eq_true rfl) ?_
  intro p e s m below meth c ls F hml hr hlk hnm hK hR hl
  have hx := F.1
  have hb := F.2.1
  replace hl : lv_has ls 3 [(0, .ref (adr 0))] := hl
  refine lv_aload_n hx hb dX7_step_0 rfl (lv_at hl 0 rfl) ?_
  refine rg_22 F hK hR dX7_step_1 ?_
  refine lv_eq (hf0) ?_
  refine lv_iconst (v := nI 1) hx hb dX7_step_4 (by decide) ?_
  refine nv_isub (by omega) hx hb dX7_step_5 ?_
  refine lv_istore_n (lv' := [(1, .int (nI (f + 1 - 1))), (0, .ref (adr 0))]) hx hb dX7_step_6 rfl hl (by decide) rfl (fun ls hl => ?_)
  replace hl : lv_has ls 3 [(1, .int (nI f)), (0, .ref (adr 0))] := hl
  refine lv_aload_n hx hb dX7_step_7 rfl (lv_at hl 1 rfl) ?_
  refine rg_24 F hK hR dX7_step_8 ?_
  refine lv_iload_n hx hb dX7_step_11 rfl (lv_at hl 0 rfl) ?_
  refine ri_24 F hK hR (by omega) dX7_step_12 ?_
  refine lv_eq (h24) ?_
  refine lv_istore_n (lv' := [(2, .int (nI x)), (1, .int (nI f)), (0, .ref (adr 0))]) hx hb dX7_step_13 rfl hl (by decide) rfl (fun ls hl => ?_)
  refine lv_aload_n hx hb dX7_step_14 rfl (lv_at hl 2 rfl) ?_
  refine rg_23 F hK hR dX7_step_15 ?_
  refine lv_iload_n hx hb dX7_step_18 rfl (lv_at hl 1 rfl) ?_
  refine ri_23 F hK hR (by omega) dX7_step_19 ?_
  refine lv_eq (h23) ?_
  refine lv_tableIn (x := nI 0) (tgt := 48) hx hb dX7_step_20 (by decide) (by decide) (off := 28) (by decide) (by decide) ?_
  refine lv_aload_n hx hb dX7_step_48 rfl (lv_at hl 2 rfl) ?_
  refine lv_iload_n hx hb dX7_step_49 rfl (lv_at hl 1 rfl) ?_
  refine gcVv (As := [.int (nI f)]) F hK hR hml cv_X7_129 (o := 0) rfl rfl rfl (hM) ⟨rfl, rfl⟩ ⟨Nat.le_of_ble_eq_true rfl, Nat.le_of_ble_eq_true rfl⟩ rfl rfl hl.1 (Nat.le_of_ble_eq_true rfl) dX7_step_50 ⟨Nat.zero_le _, Nat.zero_le _⟩ (fun H locs hR => ?_)
  refine lv_goto (tgt := 254) hx hb dX7_step_53 (by decide) ?_
  exact gr_v F hr hlk hK hR dX7_step_254 (rfl)
set_option maxHeartbeats 4000000 in
set_option maxRecDepth 100000 in
theorem c_X7_step2 (l : Launch) (G : gw_G) (A : Nat → Prop) (adr : Nat → Nat) (S X : Nat → Nat → Int32) (f x : Nat) (S9 X9 : Nat → Nat → Int32) (hf0 : X 22 0 = nI (f + 1)) (hf : f + 1 < 300) (h24 : X 24 f = nI x) (hxx : x < 12) (h23 : X 23 f = nI 2) (hM : gm l yX7_look cX7_look 4 none (rmL 2) 0 0 A [.ref (adr 0), .int (nI f), .int (nI x)] (gW G A adr (rcel G adr S X)) (gW G A adr (rcel G adr S9 X9)) none) : gm l yX7_step cX7_step 3 none (rmL 5) 0 0 A [.ref (adr 0)] (gW G A adr (rcel G adr S X)) (gW G A adr (rcel G adr S9 X9)) none := by
  refine gm_of (own := RX7) (by decide) rfl (Nat.le_of_ble_eq_true rfl) ?_
  intro p e s m below meth c ls F hml hr hlk hnm hK hR hl
  have hx := F.1
  have hb := F.2.1
  replace hl : lv_has ls 3 [(0, .ref (adr 0))] := hl
  refine lv_aload_n hx hb dX7_step_0 rfl (lv_at hl 0 rfl) ?_
  refine rg_22 F hK hR dX7_step_1 ?_
  refine lv_eq (hf0) ?_
  refine lv_iconst (v := nI 1) hx hb dX7_step_4 (by decide) ?_
  refine nv_isub (by omega) hx hb dX7_step_5 ?_
  refine lv_istore_n (lv' := [(1, .int (nI (f + 1 - 1))), (0, .ref (adr 0))]) hx hb dX7_step_6 rfl hl (by decide) rfl (fun ls hl => ?_)
  replace hl : lv_has ls 3 [(1, .int (nI f)), (0, .ref (adr 0))] := hl
  refine lv_aload_n hx hb dX7_step_7 rfl (lv_at hl 1 rfl) ?_
  refine rg_24 F hK hR dX7_step_8 ?_
  refine lv_iload_n hx hb dX7_step_11 rfl (lv_at hl 0 rfl) ?_
  refine ri_24 F hK hR (by omega) dX7_step_12 ?_
  refine lv_eq (h24) ?_
  refine lv_istore_n (lv' := [(2, .int (nI x)), (1, .int (nI f)), (0, .ref (adr 0))]) hx hb dX7_step_13 rfl hl (by decide) rfl (fun ls hl => ?_)
  refine lv_aload_n hx hb dX7_step_14 rfl (lv_at hl 2 rfl) ?_
  refine rg_23 F hK hR dX7_step_15 ?_
  refine lv_iload_n hx hb dX7_step_18 rfl (lv_at hl 1 rfl) ?_
  refine ri_23 F hK hR (by omega) dX7_step_19 ?_
  refine lv_eq (h23) ?_
  refine lv_tableIn (x := nI 2) (tgt := 183) hx hb dX7_step_20 (by decide) (by decide) (off := 163) (by decide) (by decide) ?_
  refine lv_aload_n hx hb dX7_step_183 rfl (lv_at hl 2 rfl) ?_
  refine lv_iload_n hx hb dX7_step_184 rfl (lv_at hl 1 rfl) ?_
  refine lv_iload_n hx hb dX7_step_185 rfl (lv_at hl 0 rfl) ?_
  refine gcVv (As := [.int (nI f), .int (nI x)]) F hK hR hml cv_X7_139 (o := 0) rfl rfl rfl (hM) ⟨rfl, rfl⟩ ⟨Nat.le_of_ble_eq_true rfl, Nat.le_of_ble_eq_true rfl⟩ rfl rfl hl.1 (Nat.le_of_ble_eq_true rfl) dX7_step_186 ⟨Nat.zero_le _, Nat.zero_le _⟩ (fun H locs hR => ?_)
  refine lv_goto (tgt := 254) hx hb dX7_step_189 (by decide) ?_
  exact gr_v F hr hlk hK hR dX7_step_254 (rfl)
set_option maxHeartbeats 4000000 in
set_option maxRecDepth 100000 in
theorem c_X7_step1a (l : Launch) (G : gw_G) (A : Nat → Prop) (adr : Nat → Nat) (S X : Nat → Nat → Int32) (f x : Nat)  (hf0 : X 22 0 = nI (f + 1)) (hf : f + 1 < 300) (h24 : X 24 f = nI x) (hxx : x < 12) (h23 : X 23 f = nI 1) (h27 : X 27 f = nI 0) (hp : S 3 x = -1) : gm l yX7_step cX7_step 3 none (rmL 5) 0 0 A [.ref (adr 0)] (gW G A adr (rcel G adr S X)) (gW G A adr (rcel G adr S (m2 X 27 f (nI 1)))) none := by
  refine gm_of (own := RX7) (by decide) rfl (Nat.le_of_ble_eq_true rfl) ?_
  intro p e s m below meth c ls F hml hr hlk hnm hK hR hl
  have hx := F.1
  have hb := F.2.1
  replace hl : lv_has ls 3 [(0, .ref (adr 0))] := hl
  refine lv_aload_n hx hb dX7_step_0 rfl (lv_at hl 0 rfl) ?_
  refine rg_22 F hK hR dX7_step_1 ?_
  refine lv_eq (hf0) ?_
  refine lv_iconst (v := nI 1) hx hb dX7_step_4 (by decide) ?_
  refine nv_isub (by omega) hx hb dX7_step_5 ?_
  refine lv_istore_n (lv' := [(1, .int (nI (f + 1 - 1))), (0, .ref (adr 0))]) hx hb dX7_step_6 rfl hl (by decide) rfl (fun ls hl => ?_)
  replace hl : lv_has ls 3 [(1, .int (nI f)), (0, .ref (adr 0))] := hl
  refine lv_aload_n hx hb dX7_step_7 rfl (lv_at hl 1 rfl) ?_
  refine rg_24 F hK hR dX7_step_8 ?_
  refine lv_iload_n hx hb dX7_step_11 rfl (lv_at hl 0 rfl) ?_
  refine ri_24 F hK hR (by omega) dX7_step_12 ?_
  refine lv_eq (h24) ?_
  refine lv_istore_n (lv' := [(2, .int (nI x)), (1, .int (nI f)), (0, .ref (adr 0))]) hx hb dX7_step_13 rfl hl (by decide) rfl (fun ls hl => ?_)
  refine lv_aload_n hx hb dX7_step_14 rfl (lv_at hl 2 rfl) ?_
  refine rg_23 F hK hR dX7_step_15 ?_
  refine lv_iload_n hx hb dX7_step_18 rfl (lv_at hl 1 rfl) ?_
  refine ri_23 F hK hR (by omega) dX7_step_19 ?_
  refine lv_eq (h23) ?_
  refine lv_tableIn (x := nI 1) (tgt := 56) hx hb dX7_step_20 (by decide) (by decide) (off := 36) (by decide) (by decide) ?_
  refine lv_aload_n hx hb dX7_step_56 rfl (lv_at hl 2 rfl) ?_
  refine rg_27 F hK hR dX7_step_57 ?_
  refine lv_iload_n hx hb dX7_step_60 rfl (lv_at hl 1 rfl) ?_
  refine lv_dup2_11 hx hb dX7_step_61 rfl rfl ?_
  refine ri_27 F hK hR (by omega) dX7_step_62 ?_
  refine lv_eq (h27) ?_
  refine lv_iconst (v := nI 1) hx hb dX7_step_63 (by decide) ?_
  refine nv_iadd hx hb dX7_step_64 ?_
  refine rs_27 F hK hR (by omega) dX7_step_65 (fun H locs hR => ?_)
  refine lv_aload_n hx hb dX7_step_66 rfl (lv_at hl 2 rfl) ?_
  refine rg_27 F hK hR dX7_step_67 ?_
  refine lv_iload_n hx hb dX7_step_70 rfl (lv_at hl 1 rfl) ?_
  refine ri_27 F hK hR (by omega) dX7_step_71 ?_
  refine lv_eq (m2_at) ?_
  refine lv_iconst (v := nI 1) hx hb dX7_step_72 (by decide) ?_
  refine nv_icmp_ne (by omega) (by omega) hx hb dX7_step_73 (tgt := 99) (by decide) (fun c_73 => absurd c_73 (by omega)) (fun c_73 => ?_)
  refine lv_aload_n hx hb dX7_step_76 rfl (lv_at hl 2 rfl) ?_
  refine rg_3 F hK hR dX7_step_77 ?_
  refine lv_iload_n hx hb dX7_step_80 rfl (lv_at hl 0 rfl) ?_
  refine ri_3 F hK hR (by omega) dX7_step_81 ?_
  refine lv_eq (hp) ?_
  refine lv_iconst (v := (-1)) hx hb dX7_step_82 (by decide) ?_
  refine lv_icmp_eq (tgt := 99) hx hb dX7_step_83 (by decide) (fun c_83 => ?_) (fun c_83 => absurd rfl c_83)
  refine lv_aload_n hx hb dX7_step_99 rfl (lv_at hl 2 rfl) ?_
  refine rg_27 F hK hR dX7_step_100 ?_
  refine lv_iload_n hx hb dX7_step_103 rfl (lv_at hl 1 rfl) ?_
  refine ri_27 F hK hR (by omega) dX7_step_104 ?_
  refine lv_eq (m2_at) ?_
  refine lv_iconst (v := nI 2) hx hb dX7_step_105 (by decide) ?_
  refine nv_icmp_ne (by omega) (by omega) hx hb dX7_step_106 (tgt := 128) (by decide) (fun c_106 => ?_) (fun c_106 => absurd c_106 (by omega))
  refine lv_aload_n hx hb dX7_step_128 rfl (lv_at hl 2 rfl) ?_
  refine rg_27 F hK hR dX7_step_129 ?_
  refine lv_iload_n hx hb dX7_step_132 rfl (lv_at hl 1 rfl) ?_
  refine ri_27 F hK hR (by omega) dX7_step_133 ?_
  refine lv_eq (m2_at) ?_
  refine lv_iconst (v := nI 3) hx hb dX7_step_134 (by decide) ?_
  refine nv_icmp_ne (by omega) (by omega) hx hb dX7_step_135 (tgt := 147) (by decide) (fun c_135 => ?_) (fun c_135 => absurd c_135 (by omega))
  refine lv_aload_n hx hb dX7_step_147 rfl (lv_at hl 2 rfl) ?_
  refine rg_27 F hK hR dX7_step_148 ?_
  refine lv_iload_n hx hb dX7_step_151 rfl (lv_at hl 1 rfl) ?_
  refine ri_27 F hK hR (by omega) dX7_step_152 ?_
  refine lv_eq (m2_at) ?_
  refine lv_iconst (v := nI 4) hx hb dX7_step_153 (by decide) ?_
  refine nv_icmp_ne (by omega) (by omega) hx hb dX7_step_154 (tgt := 254) (by decide) (fun c_154 => ?_) (fun c_154 => absurd c_154 (by omega))
  exact gr_v F hr hlk hK hR dX7_step_254 (rfl)
set_option maxHeartbeats 4000000 in
set_option maxRecDepth 100000 in
theorem c_X7_step1b (l : Launch) (G : gw_G) (A : Nat → Prop) (adr : Nat → Nat) (S X : Nat → Nat → Int32) (f x : Nat) (y ev : Nat) (hf0 : X 22 0 = nI (f + 1)) (hf : f + 1 < 300) (h24 : X 24 f = nI x) (hxx : x < 12) (h23 : X 23 f = nI 1) (h27 : X 27 f = nI 0) (hp : S 3 x = nI y) (hy : y < 12) (hev : S 13 0 = nI ev) (he : ev ≤ 60) : gm l yX7_step cX7_step 3 none (rmL 5) 0 0 A [.ref (adr 0)] (gW G A adr (rcel G adr S X)) (gW G A adr (rcel G adr (rf_wantS S ev y) (rf_wantX S (m2 X 27 f (nI 1)) (f + 1) y))) none := by
  refine gm_of (own := RX7) (by decide) rfl (Nat.le_of_ble_eq_true rfl) ?_
  intro p e s m below meth c ls F hml hr hlk hnm hK hR hl
  have hx := F.1
  have hb := F.2.1
  replace hl : lv_has ls 3 [(0, .ref (adr 0))] := hl
  refine lv_aload_n hx hb dX7_step_0 rfl (lv_at hl 0 rfl) ?_
  refine rg_22 F hK hR dX7_step_1 ?_
  refine lv_eq (hf0) ?_
  refine lv_iconst (v := nI 1) hx hb dX7_step_4 (by decide) ?_
  refine nv_isub (by omega) hx hb dX7_step_5 ?_
  refine lv_istore_n (lv' := [(1, .int (nI (f + 1 - 1))), (0, .ref (adr 0))]) hx hb dX7_step_6 rfl hl (by decide) rfl (fun ls hl => ?_)
  replace hl : lv_has ls 3 [(1, .int (nI f)), (0, .ref (adr 0))] := hl
  refine lv_aload_n hx hb dX7_step_7 rfl (lv_at hl 1 rfl) ?_
  refine rg_24 F hK hR dX7_step_8 ?_
  refine lv_iload_n hx hb dX7_step_11 rfl (lv_at hl 0 rfl) ?_
  refine ri_24 F hK hR (by omega) dX7_step_12 ?_
  refine lv_eq (h24) ?_
  refine lv_istore_n (lv' := [(2, .int (nI x)), (1, .int (nI f)), (0, .ref (adr 0))]) hx hb dX7_step_13 rfl hl (by decide) rfl (fun ls hl => ?_)
  refine lv_aload_n hx hb dX7_step_14 rfl (lv_at hl 2 rfl) ?_
  refine rg_23 F hK hR dX7_step_15 ?_
  refine lv_iload_n hx hb dX7_step_18 rfl (lv_at hl 1 rfl) ?_
  refine ri_23 F hK hR (by omega) dX7_step_19 ?_
  refine lv_eq (h23) ?_
  refine lv_tableIn (x := nI 1) (tgt := 56) hx hb dX7_step_20 (by decide) (by decide) (off := 36) (by decide) (by decide) ?_
  refine lv_aload_n hx hb dX7_step_56 rfl (lv_at hl 2 rfl) ?_
  refine rg_27 F hK hR dX7_step_57 ?_
  refine lv_iload_n hx hb dX7_step_60 rfl (lv_at hl 1 rfl) ?_
  refine lv_dup2_11 hx hb dX7_step_61 rfl rfl ?_
  refine ri_27 F hK hR (by omega) dX7_step_62 ?_
  refine lv_eq (h27) ?_
  refine lv_iconst (v := nI 1) hx hb dX7_step_63 (by decide) ?_
  refine nv_iadd hx hb dX7_step_64 ?_
  refine rs_27 F hK hR (by omega) dX7_step_65 (fun H locs hR => ?_)
  refine lv_aload_n hx hb dX7_step_66 rfl (lv_at hl 2 rfl) ?_
  refine rg_27 F hK hR dX7_step_67 ?_
  refine lv_iload_n hx hb dX7_step_70 rfl (lv_at hl 1 rfl) ?_
  refine ri_27 F hK hR (by omega) dX7_step_71 ?_
  refine lv_eq (m2_at) ?_
  refine lv_iconst (v := nI 1) hx hb dX7_step_72 (by decide) ?_
  refine nv_icmp_ne (by omega) (by omega) hx hb dX7_step_73 (tgt := 99) (by decide) (fun c_73 => absurd c_73 (by omega)) (fun c_73 => ?_)
  refine lv_aload_n hx hb dX7_step_76 rfl (lv_at hl 2 rfl) ?_
  refine rg_3 F hK hR dX7_step_77 ?_
  refine lv_iload_n hx hb dX7_step_80 rfl (lv_at hl 0 rfl) ?_
  refine ri_3 F hK hR (by omega) dX7_step_81 ?_
  refine lv_eq (hp) ?_
  refine lv_iconst (v := (-1)) hx hb dX7_step_82 (by decide) ?_
  refine lv_icmp_eq (tgt := 99) hx hb dX7_step_83 (by decide) (fun c_83 => absurd c_83 (nI_m1 (by omega))) (fun c_83 => ?_)
  refine lv_aload_n hx hb dX7_step_86 rfl (lv_at hl 2 rfl) ?_
  refine lv_aload_n hx hb dX7_step_87 rfl (lv_at hl 2 rfl) ?_
  refine rg_3 F hK hR dX7_step_88 ?_
  refine lv_iload_n hx hb dX7_step_91 rfl (lv_at hl 0 rfl) ?_
  refine ri_3 F hK hR (by omega) dX7_step_92 ?_
  refine lv_eq (hp) ?_
  refine gcVv (As := [.int (nI y)]) F hK hR hml cv_X7_133 (o := 0) rfl rfl rfl (c_X7_want l G A adr S (m2 X 27 f (nI 1)) ev (f + 1) y (hev) (by omega) ((m2_nk (by decide)).trans (hf0)) (by omega) (by omega)) ⟨rfl, rfl⟩ ⟨Nat.le_of_ble_eq_true rfl, Nat.le_of_ble_eq_true rfl⟩ rfl rfl hl.1 (Nat.le_of_ble_eq_true rfl) dX7_step_93 ⟨Nat.zero_le _, Nat.zero_le _⟩ (fun H locs hR => ?_)
  refine lv_goto (tgt := 254) hx hb dX7_step_96 (by decide) ?_
  exact gr_v F hr hlk hK hR dX7_step_254 (rfl)
set_option maxHeartbeats 4000000 in
set_option maxRecDepth 100000 in
theorem c_X7_step1c (l : Launch) (G : gw_G) (A : Nat → Prop) (adr : Nat → Nat) (S X : Nat → Nat → Int32) (f x : Nat)  (hf0 : X 22 0 = nI (f + 1)) (hf : f + 1 < 300) (h24 : X 24 f = nI x) (hxx : x < 12) (h23 : X 23 f = nI 1) (h27 : X 27 f = nI 1) (hi : S 1 x = 0) : gm l yX7_step cX7_step 3 none (rmL 5) 0 0 A [.ref (adr 0)] (gW G A adr (rcel G adr S X)) (gW G A adr (rcel G adr S (rf_push (m2 X 27 f (nI 2)) (f + 1) (nI 2) (nI x) (nI 0)))) none := by
  refine gm_of (own := RX7) (by decide) rfl (Nat.le_of_ble_eq_true rfl) ?_
  intro p e s m below meth c ls F hml hr hlk hnm hK hR hl
  have hx := F.1
  have hb := F.2.1
  replace hl : lv_has ls 3 [(0, .ref (adr 0))] := hl
  refine lv_aload_n hx hb dX7_step_0 rfl (lv_at hl 0 rfl) ?_
  refine rg_22 F hK hR dX7_step_1 ?_
  refine lv_eq (hf0) ?_
  refine lv_iconst (v := nI 1) hx hb dX7_step_4 (by decide) ?_
  refine nv_isub (by omega) hx hb dX7_step_5 ?_
  refine lv_istore_n (lv' := [(1, .int (nI (f + 1 - 1))), (0, .ref (adr 0))]) hx hb dX7_step_6 rfl hl (by decide) rfl (fun ls hl => ?_)
  replace hl : lv_has ls 3 [(1, .int (nI f)), (0, .ref (adr 0))] := hl
  refine lv_aload_n hx hb dX7_step_7 rfl (lv_at hl 1 rfl) ?_
  refine rg_24 F hK hR dX7_step_8 ?_
  refine lv_iload_n hx hb dX7_step_11 rfl (lv_at hl 0 rfl) ?_
  refine ri_24 F hK hR (by omega) dX7_step_12 ?_
  refine lv_eq (h24) ?_
  refine lv_istore_n (lv' := [(2, .int (nI x)), (1, .int (nI f)), (0, .ref (adr 0))]) hx hb dX7_step_13 rfl hl (by decide) rfl (fun ls hl => ?_)
  refine lv_aload_n hx hb dX7_step_14 rfl (lv_at hl 2 rfl) ?_
  refine rg_23 F hK hR dX7_step_15 ?_
  refine lv_iload_n hx hb dX7_step_18 rfl (lv_at hl 1 rfl) ?_
  refine ri_23 F hK hR (by omega) dX7_step_19 ?_
  refine lv_eq (h23) ?_
  refine lv_tableIn (x := nI 1) (tgt := 56) hx hb dX7_step_20 (by decide) (by decide) (off := 36) (by decide) (by decide) ?_
  refine lv_aload_n hx hb dX7_step_56 rfl (lv_at hl 2 rfl) ?_
  refine rg_27 F hK hR dX7_step_57 ?_
  refine lv_iload_n hx hb dX7_step_60 rfl (lv_at hl 1 rfl) ?_
  refine lv_dup2_11 hx hb dX7_step_61 rfl rfl ?_
  refine ri_27 F hK hR (by omega) dX7_step_62 ?_
  refine lv_eq (h27) ?_
  refine lv_iconst (v := nI 1) hx hb dX7_step_63 (by decide) ?_
  refine nv_iadd hx hb dX7_step_64 ?_
  refine rs_27 F hK hR (by omega) dX7_step_65 (fun H locs hR => ?_)
  refine lv_aload_n hx hb dX7_step_66 rfl (lv_at hl 2 rfl) ?_
  refine rg_27 F hK hR dX7_step_67 ?_
  refine lv_iload_n hx hb dX7_step_70 rfl (lv_at hl 1 rfl) ?_
  refine ri_27 F hK hR (by omega) dX7_step_71 ?_
  refine lv_eq (m2_at) ?_
  refine lv_iconst (v := nI 1) hx hb dX7_step_72 (by decide) ?_
  refine nv_icmp_ne (by omega) (by omega) hx hb dX7_step_73 (tgt := 99) (by decide) (fun c_73 => ?_) (fun c_73 => absurd c_73 (by omega))
  refine lv_aload_n hx hb dX7_step_99 rfl (lv_at hl 2 rfl) ?_
  refine rg_27 F hK hR dX7_step_100 ?_
  refine lv_iload_n hx hb dX7_step_103 rfl (lv_at hl 1 rfl) ?_
  refine ri_27 F hK hR (by omega) dX7_step_104 ?_
  refine lv_eq (m2_at) ?_
  refine lv_iconst (v := nI 2) hx hb dX7_step_105 (by decide) ?_
  refine nv_icmp_ne (by omega) (by omega) hx hb dX7_step_106 (tgt := 128) (by decide) (fun c_106 => absurd c_106 (by omega)) (fun c_106 => ?_)
  refine lv_aload_n hx hb dX7_step_109 rfl (lv_at hl 2 rfl) ?_
  refine rg_1 F hK hR dX7_step_110 ?_
  refine lv_iload_n hx hb dX7_step_113 rfl (lv_at hl 0 rfl) ?_
  refine ri_1 F hK hR (by omega) dX7_step_114 ?_
  refine lv_if_ne (tgt := 128) hx hb dX7_step_115 (by decide) (fun c_115 => absurd c_115 (fun q => q hi)) (fun c_115 => ?_)
  refine lv_aload_n hx hb dX7_step_118 rfl (lv_at hl 2 rfl) ?_
  refine lv_iconst (v := nI 2) hx hb dX7_step_119 (by decide) ?_
  refine lv_iload_n hx hb dX7_step_120 rfl (lv_at hl 0 rfl) ?_
  refine lv_iconst (v := nI 0) hx hb dX7_step_121 (by decide) ?_
  refine gcVv (As := [.int (nI 2), .int (nI x), .int (nI 0)]) F hK hR hml cv_X7_122 (o := 0) rfl rfl rfl (c_X7_push l G A adr S (m2 X 27 f (nI 2)) (f + 1) (nI 2) (nI x) (nI 0) ((m2_nk (by decide)).trans (hf0)) (by omega)) ⟨rfl, rfl⟩ ⟨Nat.le_of_ble_eq_true rfl, Nat.le_of_ble_eq_true rfl⟩ rfl rfl hl.1 (Nat.le_of_ble_eq_true rfl) dX7_step_122 ⟨Nat.zero_le _, Nat.zero_le _⟩ (fun H locs hR => ?_)
  refine lv_goto (tgt := 254) hx hb dX7_step_125 (by decide) ?_
  exact gr_v F hr hlk hK hR dX7_step_254 (rfl)
set_option maxHeartbeats 4000000 in
set_option maxRecDepth 100000 in
theorem c_X7_step1d (l : Launch) (G : gw_G) (A : Nat → Prop) (adr : Nat → Nat) (S X : Nat → Nat → Int32) (f x : Nat)  (hf0 : X 22 0 = nI (f + 1)) (hf : f + 1 < 300) (h24 : X 24 f = nI x) (hxx : x < 12) (h23 : X 23 f = nI 1) (h27 : X 27 f = nI 1) (hi : ¬ S 1 x = 0) : gm l yX7_step cX7_step 3 none (rmL 5) 0 0 A [.ref (adr 0)] (gW G A adr (rcel G adr S X)) (gW G A adr (rcel G adr S (m2 X 27 f (nI 2)))) none := by
  refine gm_of (own := RX7) (by decide) rfl (Nat.le_of_ble_eq_true rfl) ?_
  intro p e s m below meth c ls F hml hr hlk hnm hK hR hl
  have hx := F.1
  have hb := F.2.1
  replace hl : lv_has ls 3 [(0, .ref (adr 0))] := hl
  refine lv_aload_n hx hb dX7_step_0 rfl (lv_at hl 0 rfl) ?_
  refine rg_22 F hK hR dX7_step_1 ?_
  refine lv_eq (hf0) ?_
  refine lv_iconst (v := nI 1) hx hb dX7_step_4 (by decide) ?_
  refine nv_isub (by omega) hx hb dX7_step_5 ?_
  refine lv_istore_n (lv' := [(1, .int (nI (f + 1 - 1))), (0, .ref (adr 0))]) hx hb dX7_step_6 rfl hl (by decide) rfl (fun ls hl => ?_)
  replace hl : lv_has ls 3 [(1, .int (nI f)), (0, .ref (adr 0))] := hl
  refine lv_aload_n hx hb dX7_step_7 rfl (lv_at hl 1 rfl) ?_
  refine rg_24 F hK hR dX7_step_8 ?_
  refine lv_iload_n hx hb dX7_step_11 rfl (lv_at hl 0 rfl) ?_
  refine ri_24 F hK hR (by omega) dX7_step_12 ?_
  refine lv_eq (h24) ?_
  refine lv_istore_n (lv' := [(2, .int (nI x)), (1, .int (nI f)), (0, .ref (adr 0))]) hx hb dX7_step_13 rfl hl (by decide) rfl (fun ls hl => ?_)
  refine lv_aload_n hx hb dX7_step_14 rfl (lv_at hl 2 rfl) ?_
  refine rg_23 F hK hR dX7_step_15 ?_
  refine lv_iload_n hx hb dX7_step_18 rfl (lv_at hl 1 rfl) ?_
  refine ri_23 F hK hR (by omega) dX7_step_19 ?_
  refine lv_eq (h23) ?_
  refine lv_tableIn (x := nI 1) (tgt := 56) hx hb dX7_step_20 (by decide) (by decide) (off := 36) (by decide) (by decide) ?_
  refine lv_aload_n hx hb dX7_step_56 rfl (lv_at hl 2 rfl) ?_
  refine rg_27 F hK hR dX7_step_57 ?_
  refine lv_iload_n hx hb dX7_step_60 rfl (lv_at hl 1 rfl) ?_
  refine lv_dup2_11 hx hb dX7_step_61 rfl rfl ?_
  refine ri_27 F hK hR (by omega) dX7_step_62 ?_
  refine lv_eq (h27) ?_
  refine lv_iconst (v := nI 1) hx hb dX7_step_63 (by decide) ?_
  refine nv_iadd hx hb dX7_step_64 ?_
  refine rs_27 F hK hR (by omega) dX7_step_65 (fun H locs hR => ?_)
  refine lv_aload_n hx hb dX7_step_66 rfl (lv_at hl 2 rfl) ?_
  refine rg_27 F hK hR dX7_step_67 ?_
  refine lv_iload_n hx hb dX7_step_70 rfl (lv_at hl 1 rfl) ?_
  refine ri_27 F hK hR (by omega) dX7_step_71 ?_
  refine lv_eq (m2_at) ?_
  refine lv_iconst (v := nI 1) hx hb dX7_step_72 (by decide) ?_
  refine nv_icmp_ne (by omega) (by omega) hx hb dX7_step_73 (tgt := 99) (by decide) (fun c_73 => ?_) (fun c_73 => absurd c_73 (by omega))
  refine lv_aload_n hx hb dX7_step_99 rfl (lv_at hl 2 rfl) ?_
  refine rg_27 F hK hR dX7_step_100 ?_
  refine lv_iload_n hx hb dX7_step_103 rfl (lv_at hl 1 rfl) ?_
  refine ri_27 F hK hR (by omega) dX7_step_104 ?_
  refine lv_eq (m2_at) ?_
  refine lv_iconst (v := nI 2) hx hb dX7_step_105 (by decide) ?_
  refine nv_icmp_ne (by omega) (by omega) hx hb dX7_step_106 (tgt := 128) (by decide) (fun c_106 => absurd c_106 (by omega)) (fun c_106 => ?_)
  refine lv_aload_n hx hb dX7_step_109 rfl (lv_at hl 2 rfl) ?_
  refine rg_1 F hK hR dX7_step_110 ?_
  refine lv_iload_n hx hb dX7_step_113 rfl (lv_at hl 0 rfl) ?_
  refine ri_1 F hK hR (by omega) dX7_step_114 ?_
  refine lv_if_ne (tgt := 128) hx hb dX7_step_115 (by decide) (fun c_115 => ?_) (fun c_115 => absurd c_115 (hi))
  refine lv_aload_n hx hb dX7_step_128 rfl (lv_at hl 2 rfl) ?_
  refine rg_27 F hK hR dX7_step_129 ?_
  refine lv_iload_n hx hb dX7_step_132 rfl (lv_at hl 1 rfl) ?_
  refine ri_27 F hK hR (by omega) dX7_step_133 ?_
  refine lv_eq (m2_at) ?_
  refine lv_iconst (v := nI 3) hx hb dX7_step_134 (by decide) ?_
  refine nv_icmp_ne (by omega) (by omega) hx hb dX7_step_135 (tgt := 147) (by decide) (fun c_135 => ?_) (fun c_135 => absurd c_135 (by omega))
  refine lv_aload_n hx hb dX7_step_147 rfl (lv_at hl 2 rfl) ?_
  refine rg_27 F hK hR dX7_step_148 ?_
  refine lv_iload_n hx hb dX7_step_151 rfl (lv_at hl 1 rfl) ?_
  refine ri_27 F hK hR (by omega) dX7_step_152 ?_
  refine lv_eq (m2_at) ?_
  refine lv_iconst (v := nI 4) hx hb dX7_step_153 (by decide) ?_
  refine nv_icmp_ne (by omega) (by omega) hx hb dX7_step_154 (tgt := 254) (by decide) (fun c_154 => ?_) (fun c_154 => absurd c_154 (by omega))
  exact gr_v F hr hlk hK hR dX7_step_254 (rfl)
set_option maxHeartbeats 4000000 in
set_option maxRecDepth 100000 in
theorem c_X7_step1e (l : Launch) (G : gw_G) (A : Nat → Prop) (adr : Nat → Nat) (S X : Nat → Nat → Int32) (f x : Nat) (wi : Nat) (hf0 : X 22 0 = nI (f + 1)) (hf : f + 1 < 300) (h24 : X 24 f = nI x) (hxx : x < 12) (h23 : X 23 f = nI 1) (h27 : X 27 f = nI 2) (hwi : X 21 0 = nI wi) (hw8 : wi ≤ 8) : gm l yX7_step cX7_step 3 none (rmL 5) 0 0 A [.ref (adr 0)] (gW G A adr (rcel G adr S X)) (gW G A adr (rcel G adr (rf_entS S wi) (rf_entX (m2 X 27 f (nI 3)) wi (f + 1) (nI x) (nI 0)))) none := by
  refine gm_of (own := RX7) (by decide) rfl (Nat.le_of_ble_eq_true rfl) ?_
  intro p e s m below meth c ls F hml hr hlk hnm hK hR hl
  have hx := F.1
  have hb := F.2.1
  replace hl : lv_has ls 3 [(0, .ref (adr 0))] := hl
  refine lv_aload_n hx hb dX7_step_0 rfl (lv_at hl 0 rfl) ?_
  refine rg_22 F hK hR dX7_step_1 ?_
  refine lv_eq (hf0) ?_
  refine lv_iconst (v := nI 1) hx hb dX7_step_4 (by decide) ?_
  refine nv_isub (by omega) hx hb dX7_step_5 ?_
  refine lv_istore_n (lv' := [(1, .int (nI (f + 1 - 1))), (0, .ref (adr 0))]) hx hb dX7_step_6 rfl hl (by decide) rfl (fun ls hl => ?_)
  replace hl : lv_has ls 3 [(1, .int (nI f)), (0, .ref (adr 0))] := hl
  refine lv_aload_n hx hb dX7_step_7 rfl (lv_at hl 1 rfl) ?_
  refine rg_24 F hK hR dX7_step_8 ?_
  refine lv_iload_n hx hb dX7_step_11 rfl (lv_at hl 0 rfl) ?_
  refine ri_24 F hK hR (by omega) dX7_step_12 ?_
  refine lv_eq (h24) ?_
  refine lv_istore_n (lv' := [(2, .int (nI x)), (1, .int (nI f)), (0, .ref (adr 0))]) hx hb dX7_step_13 rfl hl (by decide) rfl (fun ls hl => ?_)
  refine lv_aload_n hx hb dX7_step_14 rfl (lv_at hl 2 rfl) ?_
  refine rg_23 F hK hR dX7_step_15 ?_
  refine lv_iload_n hx hb dX7_step_18 rfl (lv_at hl 1 rfl) ?_
  refine ri_23 F hK hR (by omega) dX7_step_19 ?_
  refine lv_eq (h23) ?_
  refine lv_tableIn (x := nI 1) (tgt := 56) hx hb dX7_step_20 (by decide) (by decide) (off := 36) (by decide) (by decide) ?_
  refine lv_aload_n hx hb dX7_step_56 rfl (lv_at hl 2 rfl) ?_
  refine rg_27 F hK hR dX7_step_57 ?_
  refine lv_iload_n hx hb dX7_step_60 rfl (lv_at hl 1 rfl) ?_
  refine lv_dup2_11 hx hb dX7_step_61 rfl rfl ?_
  refine ri_27 F hK hR (by omega) dX7_step_62 ?_
  refine lv_eq (h27) ?_
  refine lv_iconst (v := nI 1) hx hb dX7_step_63 (by decide) ?_
  refine nv_iadd hx hb dX7_step_64 ?_
  refine rs_27 F hK hR (by omega) dX7_step_65 (fun H locs hR => ?_)
  refine lv_aload_n hx hb dX7_step_66 rfl (lv_at hl 2 rfl) ?_
  refine rg_27 F hK hR dX7_step_67 ?_
  refine lv_iload_n hx hb dX7_step_70 rfl (lv_at hl 1 rfl) ?_
  refine ri_27 F hK hR (by omega) dX7_step_71 ?_
  refine lv_eq (m2_at) ?_
  refine lv_iconst (v := nI 1) hx hb dX7_step_72 (by decide) ?_
  refine nv_icmp_ne (by omega) (by omega) hx hb dX7_step_73 (tgt := 99) (by decide) (fun c_73 => ?_) (fun c_73 => absurd c_73 (by omega))
  refine lv_aload_n hx hb dX7_step_99 rfl (lv_at hl 2 rfl) ?_
  refine rg_27 F hK hR dX7_step_100 ?_
  refine lv_iload_n hx hb dX7_step_103 rfl (lv_at hl 1 rfl) ?_
  refine ri_27 F hK hR (by omega) dX7_step_104 ?_
  refine lv_eq (m2_at) ?_
  refine lv_iconst (v := nI 2) hx hb dX7_step_105 (by decide) ?_
  refine nv_icmp_ne (by omega) (by omega) hx hb dX7_step_106 (tgt := 128) (by decide) (fun c_106 => ?_) (fun c_106 => absurd c_106 (by omega))
  refine lv_aload_n hx hb dX7_step_128 rfl (lv_at hl 2 rfl) ?_
  refine rg_27 F hK hR dX7_step_129 ?_
  refine lv_iload_n hx hb dX7_step_132 rfl (lv_at hl 1 rfl) ?_
  refine ri_27 F hK hR (by omega) dX7_step_133 ?_
  refine lv_eq (m2_at) ?_
  refine lv_iconst (v := nI 3) hx hb dX7_step_134 (by decide) ?_
  refine nv_icmp_ne (by omega) (by omega) hx hb dX7_step_135 (tgt := 147) (by decide) (fun c_135 => absurd c_135 (by omega)) (fun c_135 => ?_)
  refine lv_aload_n hx hb dX7_step_138 rfl (lv_at hl 2 rfl) ?_
  refine lv_iload_n hx hb dX7_step_139 rfl (lv_at hl 0 rfl) ?_
  refine lv_iconst (v := nI 0) hx hb dX7_step_140 (by decide) ?_
  refine gcVv (As := [.int (nI x), .int (nI 0)]) F hK hR hml cv_X7_136 (o := 0) rfl rfl rfl (c_X7_enter l G A adr S (m2 X 27 f (nI 3)) wi (f + 1) (nI x) (nI 0) ((m2_nk (by decide)).trans (hwi)) (by omega) ((m2_nk (by decide)).trans (hf0)) (by omega)) ⟨rfl, rfl⟩ ⟨Nat.le_of_ble_eq_true rfl, Nat.le_of_ble_eq_true rfl⟩ rfl rfl hl.1 (Nat.le_of_ble_eq_true rfl) dX7_step_141 ⟨Nat.zero_le _, Nat.zero_le _⟩ (fun H locs hR => ?_)
  refine lv_goto (tgt := 254) hx hb dX7_step_144 (by decide) ?_
  exact gr_v F hr hlk hK hR dX7_step_254 (rfl)
set_option maxHeartbeats 4000000 in
set_option maxRecDepth 100000 in
theorem c_X7_step1g (l : Launch) (G : gw_G) (A : Nat → Prop) (adr : Nat → Nat) (S X : Nat → Nat → Int32) (f x : Nat) (ev : Nat) (hf0 : X 22 0 = nI (f + 1)) (hf : f + 1 < 300) (h24 : X 24 f = nI x) (hxx : x < 12) (h23 : X 23 f = nI 1) (h27 : X 27 f = nI 3) (hev : S 13 0 = nI ev) (he : ev ≤ 60) : gm l yX7_step cX7_step 3 none (rmL 5) 0 0 A [.ref (adr 0)] (gW G A adr (rcel G adr S X)) (gW G A adr (rcel G adr (sp_tell (m2 S 12 x (nI 2)) ev (nI 1) (nI x)) (m2 (m2 X 27 f (nI 4)) 22 0 (nI f)))) none := by
  refine gm_of (own := RX7) (by decide) rfl (Nat.le_of_ble_eq_true rfl) ?_
  intro p e s m below meth c ls F hml hr hlk hnm hK hR hl
  have hx := F.1
  have hb := F.2.1
  replace hl : lv_has ls 3 [(0, .ref (adr 0))] := hl
  refine lv_aload_n hx hb dX7_step_0 rfl (lv_at hl 0 rfl) ?_
  refine rg_22 F hK hR dX7_step_1 ?_
  refine lv_eq (hf0) ?_
  refine lv_iconst (v := nI 1) hx hb dX7_step_4 (by decide) ?_
  refine nv_isub (by omega) hx hb dX7_step_5 ?_
  refine lv_istore_n (lv' := [(1, .int (nI (f + 1 - 1))), (0, .ref (adr 0))]) hx hb dX7_step_6 rfl hl (by decide) rfl (fun ls hl => ?_)
  replace hl : lv_has ls 3 [(1, .int (nI f)), (0, .ref (adr 0))] := hl
  refine lv_aload_n hx hb dX7_step_7 rfl (lv_at hl 1 rfl) ?_
  refine rg_24 F hK hR dX7_step_8 ?_
  refine lv_iload_n hx hb dX7_step_11 rfl (lv_at hl 0 rfl) ?_
  refine ri_24 F hK hR (by omega) dX7_step_12 ?_
  refine lv_eq (h24) ?_
  refine lv_istore_n (lv' := [(2, .int (nI x)), (1, .int (nI f)), (0, .ref (adr 0))]) hx hb dX7_step_13 rfl hl (by decide) rfl (fun ls hl => ?_)
  refine lv_aload_n hx hb dX7_step_14 rfl (lv_at hl 2 rfl) ?_
  refine rg_23 F hK hR dX7_step_15 ?_
  refine lv_iload_n hx hb dX7_step_18 rfl (lv_at hl 1 rfl) ?_
  refine ri_23 F hK hR (by omega) dX7_step_19 ?_
  refine lv_eq (h23) ?_
  refine lv_tableIn (x := nI 1) (tgt := 56) hx hb dX7_step_20 (by decide) (by decide) (off := 36) (by decide) (by decide) ?_
  refine lv_aload_n hx hb dX7_step_56 rfl (lv_at hl 2 rfl) ?_
  refine rg_27 F hK hR dX7_step_57 ?_
  refine lv_iload_n hx hb dX7_step_60 rfl (lv_at hl 1 rfl) ?_
  refine lv_dup2_11 hx hb dX7_step_61 rfl rfl ?_
  refine ri_27 F hK hR (by omega) dX7_step_62 ?_
  refine lv_eq (h27) ?_
  refine lv_iconst (v := nI 1) hx hb dX7_step_63 (by decide) ?_
  refine nv_iadd hx hb dX7_step_64 ?_
  refine rs_27 F hK hR (by omega) dX7_step_65 (fun H locs hR => ?_)
  refine lv_aload_n hx hb dX7_step_66 rfl (lv_at hl 2 rfl) ?_
  refine rg_27 F hK hR dX7_step_67 ?_
  refine lv_iload_n hx hb dX7_step_70 rfl (lv_at hl 1 rfl) ?_
  refine ri_27 F hK hR (by omega) dX7_step_71 ?_
  refine lv_eq (m2_at) ?_
  refine lv_iconst (v := nI 1) hx hb dX7_step_72 (by decide) ?_
  refine nv_icmp_ne (by omega) (by omega) hx hb dX7_step_73 (tgt := 99) (by decide) (fun c_73 => ?_) (fun c_73 => absurd c_73 (by omega))
  refine lv_aload_n hx hb dX7_step_99 rfl (lv_at hl 2 rfl) ?_
  refine rg_27 F hK hR dX7_step_100 ?_
  refine lv_iload_n hx hb dX7_step_103 rfl (lv_at hl 1 rfl) ?_
  refine ri_27 F hK hR (by omega) dX7_step_104 ?_
  refine lv_eq (m2_at) ?_
  refine lv_iconst (v := nI 2) hx hb dX7_step_105 (by decide) ?_
  refine nv_icmp_ne (by omega) (by omega) hx hb dX7_step_106 (tgt := 128) (by decide) (fun c_106 => ?_) (fun c_106 => absurd c_106 (by omega))
  refine lv_aload_n hx hb dX7_step_128 rfl (lv_at hl 2 rfl) ?_
  refine rg_27 F hK hR dX7_step_129 ?_
  refine lv_iload_n hx hb dX7_step_132 rfl (lv_at hl 1 rfl) ?_
  refine ri_27 F hK hR (by omega) dX7_step_133 ?_
  refine lv_eq (m2_at) ?_
  refine lv_iconst (v := nI 3) hx hb dX7_step_134 (by decide) ?_
  refine nv_icmp_ne (by omega) (by omega) hx hb dX7_step_135 (tgt := 147) (by decide) (fun c_135 => ?_) (fun c_135 => absurd c_135 (by omega))
  refine lv_aload_n hx hb dX7_step_147 rfl (lv_at hl 2 rfl) ?_
  refine rg_27 F hK hR dX7_step_148 ?_
  refine lv_iload_n hx hb dX7_step_151 rfl (lv_at hl 1 rfl) ?_
  refine ri_27 F hK hR (by omega) dX7_step_152 ?_
  refine lv_eq (m2_at) ?_
  refine lv_iconst (v := nI 4) hx hb dX7_step_153 (by decide) ?_
  refine nv_icmp_ne (by omega) (by omega) hx hb dX7_step_154 (tgt := 254) (by decide) (fun c_154 => absurd c_154 (by omega)) (fun c_154 => ?_)
  refine lv_aload_n hx hb dX7_step_157 rfl (lv_at hl 2 rfl) ?_
  refine rg_12 F hK hR dX7_step_158 ?_
  refine lv_iload_n hx hb dX7_step_161 rfl (lv_at hl 0 rfl) ?_
  refine lv_iconst (v := nI 2) hx hb dX7_step_162 (by decide) ?_
  refine rs_12 F hK hR (by omega) dX7_step_163 (fun H locs hR => ?_)
  refine lv_aload_n hx hb dX7_step_164 rfl (lv_at hl 2 rfl) ?_
  refine lv_iconst (v := nI 1) hx hb dX7_step_165 (by decide) ?_
  refine lv_iload_n hx hb dX7_step_166 rfl (lv_at hl 0 rfl) ?_
  refine gcVv (As := [.int (nI 1), .int (nI x)]) F hK hR hml cv_X7_118 (o := 0) rfl rfl rfl (c_X7_tell l G A adr (m2 S 12 x (nI 2)) (m2 X 27 f (nI 4)) ev (nI 1) (nI x) ((m2_nk (by decide)).trans (hev)) (by omega)) ⟨rfl, rfl⟩ ⟨Nat.le_of_ble_eq_true rfl, Nat.le_of_ble_eq_true rfl⟩ rfl rfl hl.1 (Nat.le_of_ble_eq_true rfl) dX7_step_167 ⟨Nat.zero_le _, Nat.zero_le _⟩ (fun H locs hR => ?_)
  refine lv_aload_n hx hb dX7_step_170 rfl (lv_at hl 2 rfl) ?_
  refine lv_dup hx hb dX7_step_171 rfl ?_
  refine rg_22 F hK hR dX7_step_172 ?_
  refine lv_eq ((m2_nk (by decide)).trans (hf0)) ?_
  refine lv_iconst (v := nI 1) hx hb dX7_step_175 (by decide) ?_
  refine nv_isub (by omega) hx hb dX7_step_176 ?_
  refine rp_22 F hK hR dX7_step_177 (fun H locs hR => ?_)
  refine lv_goto (tgt := 254) hx hb dX7_step_180 (by decide) ?_
  exact gr_v F hr hlk hK hR dX7_step_254 (rfl)
set_option maxHeartbeats 4000000 in
set_option maxRecDepth 100000 in
theorem c_X7_step3a (l : Launch) (G : gw_G) (A : Nat → Prop) (adr : Nat → Nat) (S X : Nat → Nat → Int32) (f x : Nat) (ev : Nat) (hf0 : X 22 0 = nI (f + 1)) (hf : f + 1 < 300) (h24 : X 24 f = nI x) (hxx : x < 12) (h23 : X 23 f = nI 3) (h27 : X 27 f = nI 0) (hev : S 13 0 = nI ev) (he : ev ≤ 60) : gm l yX7_step cX7_step 3 none (rmL 5) 0 0 A [.ref (adr 0)] (gW G A adr (rcel G adr S X)) (gW G A adr (rcel G adr (rf_wantS S ev x) (rf_wantX S (m2 X 27 f (nI 1)) (f + 1) x))) none := by
  refine gm_of (own := RX7) (by decide) rfl (Nat.le_of_ble_eq_true rfl) ?_
  intro p e s m below meth c ls F hml hr hlk hnm hK hR hl
  have hx := F.1
  have hb := F.2.1
  replace hl : lv_has ls 3 [(0, .ref (adr 0))] := hl
  refine lv_aload_n hx hb dX7_step_0 rfl (lv_at hl 0 rfl) ?_
  refine rg_22 F hK hR dX7_step_1 ?_
  refine lv_eq (hf0) ?_
  refine lv_iconst (v := nI 1) hx hb dX7_step_4 (by decide) ?_
  refine nv_isub (by omega) hx hb dX7_step_5 ?_
  refine lv_istore_n (lv' := [(1, .int (nI (f + 1 - 1))), (0, .ref (adr 0))]) hx hb dX7_step_6 rfl hl (by decide) rfl (fun ls hl => ?_)
  replace hl : lv_has ls 3 [(1, .int (nI f)), (0, .ref (adr 0))] := hl
  refine lv_aload_n hx hb dX7_step_7 rfl (lv_at hl 1 rfl) ?_
  refine rg_24 F hK hR dX7_step_8 ?_
  refine lv_iload_n hx hb dX7_step_11 rfl (lv_at hl 0 rfl) ?_
  refine ri_24 F hK hR (by omega) dX7_step_12 ?_
  refine lv_eq (h24) ?_
  refine lv_istore_n (lv' := [(2, .int (nI x)), (1, .int (nI f)), (0, .ref (adr 0))]) hx hb dX7_step_13 rfl hl (by decide) rfl (fun ls hl => ?_)
  refine lv_aload_n hx hb dX7_step_14 rfl (lv_at hl 2 rfl) ?_
  refine rg_23 F hK hR dX7_step_15 ?_
  refine lv_iload_n hx hb dX7_step_18 rfl (lv_at hl 1 rfl) ?_
  refine ri_23 F hK hR (by omega) dX7_step_19 ?_
  refine lv_eq (h23) ?_
  refine lv_tableOut (x := nI 3) (tgt := 192) hx hb dX7_step_20 (by decide) (by decide) ?_
  refine lv_aload_n hx hb dX7_step_192 rfl (lv_at hl 2 rfl) ?_
  refine rg_27 F hK hR dX7_step_193 ?_
  refine lv_iload_n hx hb dX7_step_196 rfl (lv_at hl 1 rfl) ?_
  refine lv_dup2_11 hx hb dX7_step_197 rfl rfl ?_
  refine ri_27 F hK hR (by omega) dX7_step_198 ?_
  refine lv_eq (h27) ?_
  refine lv_iconst (v := nI 1) hx hb dX7_step_199 (by decide) ?_
  refine nv_iadd hx hb dX7_step_200 ?_
  refine rs_27 F hK hR (by omega) dX7_step_201 (fun H locs hR => ?_)
  refine lv_aload_n hx hb dX7_step_202 rfl (lv_at hl 2 rfl) ?_
  refine rg_27 F hK hR dX7_step_203 ?_
  refine lv_iload_n hx hb dX7_step_206 rfl (lv_at hl 1 rfl) ?_
  refine ri_27 F hK hR (by omega) dX7_step_207 ?_
  refine lv_eq (m2_at) ?_
  refine lv_iconst (v := nI 1) hx hb dX7_step_208 (by decide) ?_
  refine nv_icmp_ne (by omega) (by omega) hx hb dX7_step_209 (tgt := 220) (by decide) (fun c_209 => absurd c_209 (by omega)) (fun c_209 => ?_)
  refine lv_aload_n hx hb dX7_step_212 rfl (lv_at hl 2 rfl) ?_
  refine lv_iload_n hx hb dX7_step_213 rfl (lv_at hl 0 rfl) ?_
  refine gcVv (As := [.int (nI x)]) F hK hR hml cv_X7_133 (o := 0) rfl rfl rfl (c_X7_want l G A adr S (m2 X 27 f (nI 1)) ev (f + 1) x (hev) (by omega) ((m2_nk (by decide)).trans (hf0)) (by omega) (by omega)) ⟨rfl, rfl⟩ ⟨Nat.le_of_ble_eq_true rfl, Nat.le_of_ble_eq_true rfl⟩ rfl rfl hl.1 (Nat.le_of_ble_eq_true rfl) dX7_step_214 ⟨Nat.zero_le _, Nat.zero_le _⟩ (fun H locs hR => ?_)
  refine lv_goto (tgt := 254) hx hb dX7_step_217 (by decide) ?_
  exact gr_v F hr hlk hK hR dX7_step_254 (rfl)
set_option maxHeartbeats 4000000 in
set_option maxRecDepth 100000 in
theorem c_X7_step3b (l : Launch) (G : gw_G) (A : Nat → Prop) (adr : Nat → Nat) (S X : Nat → Nat → Int32) (f x : Nat) (wi mm : Nat) (hf0 : X 22 0 = nI (f + 1)) (hf : f + 1 < 300) (h24 : X 24 f = nI x) (hxx : x < 12) (h23 : X 23 f = nI 3) (h27 : X 27 f = nI 1) (hwi : X 21 0 = nI wi) (hw8 : wi ≤ 8) (h25 : X 25 f = nI mm) : gm l yX7_step cX7_step 3 none (rmL 5) 0 0 A [.ref (adr 0)] (gW G A adr (rcel G adr S X)) (gW G A adr (rcel G adr (rf_entS S wi) (rf_entX (m2 X 27 f (nI 2)) wi (f + 1) (nI x) (nI mm)))) none := by
  refine gm_of (own := RX7) (by decide) rfl (Nat.le_of_ble_eq_true rfl) ?_
  intro p e s m below meth c ls F hml hr hlk hnm hK hR hl
  have hx := F.1
  have hb := F.2.1
  replace hl : lv_has ls 3 [(0, .ref (adr 0))] := hl
  refine lv_aload_n hx hb dX7_step_0 rfl (lv_at hl 0 rfl) ?_
  refine rg_22 F hK hR dX7_step_1 ?_
  refine lv_eq (hf0) ?_
  refine lv_iconst (v := nI 1) hx hb dX7_step_4 (by decide) ?_
  refine nv_isub (by omega) hx hb dX7_step_5 ?_
  refine lv_istore_n (lv' := [(1, .int (nI (f + 1 - 1))), (0, .ref (adr 0))]) hx hb dX7_step_6 rfl hl (by decide) rfl (fun ls hl => ?_)
  replace hl : lv_has ls 3 [(1, .int (nI f)), (0, .ref (adr 0))] := hl
  refine lv_aload_n hx hb dX7_step_7 rfl (lv_at hl 1 rfl) ?_
  refine rg_24 F hK hR dX7_step_8 ?_
  refine lv_iload_n hx hb dX7_step_11 rfl (lv_at hl 0 rfl) ?_
  refine ri_24 F hK hR (by omega) dX7_step_12 ?_
  refine lv_eq (h24) ?_
  refine lv_istore_n (lv' := [(2, .int (nI x)), (1, .int (nI f)), (0, .ref (adr 0))]) hx hb dX7_step_13 rfl hl (by decide) rfl (fun ls hl => ?_)
  refine lv_aload_n hx hb dX7_step_14 rfl (lv_at hl 2 rfl) ?_
  refine rg_23 F hK hR dX7_step_15 ?_
  refine lv_iload_n hx hb dX7_step_18 rfl (lv_at hl 1 rfl) ?_
  refine ri_23 F hK hR (by omega) dX7_step_19 ?_
  refine lv_eq (h23) ?_
  refine lv_tableOut (x := nI 3) (tgt := 192) hx hb dX7_step_20 (by decide) (by decide) ?_
  refine lv_aload_n hx hb dX7_step_192 rfl (lv_at hl 2 rfl) ?_
  refine rg_27 F hK hR dX7_step_193 ?_
  refine lv_iload_n hx hb dX7_step_196 rfl (lv_at hl 1 rfl) ?_
  refine lv_dup2_11 hx hb dX7_step_197 rfl rfl ?_
  refine ri_27 F hK hR (by omega) dX7_step_198 ?_
  refine lv_eq (h27) ?_
  refine lv_iconst (v := nI 1) hx hb dX7_step_199 (by decide) ?_
  refine nv_iadd hx hb dX7_step_200 ?_
  refine rs_27 F hK hR (by omega) dX7_step_201 (fun H locs hR => ?_)
  refine lv_aload_n hx hb dX7_step_202 rfl (lv_at hl 2 rfl) ?_
  refine rg_27 F hK hR dX7_step_203 ?_
  refine lv_iload_n hx hb dX7_step_206 rfl (lv_at hl 1 rfl) ?_
  refine ri_27 F hK hR (by omega) dX7_step_207 ?_
  refine lv_eq (m2_at) ?_
  refine lv_iconst (v := nI 1) hx hb dX7_step_208 (by decide) ?_
  refine nv_icmp_ne (by omega) (by omega) hx hb dX7_step_209 (tgt := 220) (by decide) (fun c_209 => ?_) (fun c_209 => absurd c_209 (by omega))
  refine lv_aload_n hx hb dX7_step_220 rfl (lv_at hl 2 rfl) ?_
  refine rg_27 F hK hR dX7_step_221 ?_
  refine lv_iload_n hx hb dX7_step_224 rfl (lv_at hl 1 rfl) ?_
  refine ri_27 F hK hR (by omega) dX7_step_225 ?_
  refine lv_eq (m2_at) ?_
  refine lv_iconst (v := nI 2) hx hb dX7_step_226 (by decide) ?_
  refine nv_icmp_ne (by omega) (by omega) hx hb dX7_step_227 (tgt := 244) (by decide) (fun c_227 => absurd c_227 (by omega)) (fun c_227 => ?_)
  refine lv_aload_n hx hb dX7_step_230 rfl (lv_at hl 2 rfl) ?_
  refine lv_iload_n hx hb dX7_step_231 rfl (lv_at hl 0 rfl) ?_
  refine lv_aload_n hx hb dX7_step_232 rfl (lv_at hl 2 rfl) ?_
  refine rg_25 F hK hR dX7_step_233 ?_
  refine lv_iload_n hx hb dX7_step_236 rfl (lv_at hl 1 rfl) ?_
  refine ri_25 F hK hR (by omega) dX7_step_237 ?_
  refine lv_eq ((m2_nk (by decide)).trans (h25)) ?_
  refine gcVv (As := [.int (nI x), .int (nI mm)]) F hK hR hml cv_X7_136 (o := 0) rfl rfl rfl (c_X7_enter l G A adr S (m2 X 27 f (nI 2)) wi (f + 1) (nI x) (nI mm) ((m2_nk (by decide)).trans (hwi)) (by omega) ((m2_nk (by decide)).trans (hf0)) (by omega)) ⟨rfl, rfl⟩ ⟨Nat.le_of_ble_eq_true rfl, Nat.le_of_ble_eq_true rfl⟩ rfl rfl hl.1 (Nat.le_of_ble_eq_true rfl) dX7_step_238 ⟨Nat.zero_le _, Nat.zero_le _⟩ (fun H locs hR => ?_)
  refine lv_goto (tgt := 254) hx hb dX7_step_241 (by decide) ?_
  exact gr_v F hr hlk hK hR dX7_step_254 (rfl)
set_option maxHeartbeats 4000000 in
set_option maxRecDepth 100000 in
theorem c_X7_step3c (l : Launch) (G : gw_G) (A : Nat → Prop) (adr : Nat → Nat) (S X : Nat → Nat → Int32) (f x : Nat)  (hf0 : X 22 0 = nI (f + 1)) (hf : f + 1 < 300) (h24 : X 24 f = nI x) (hxx : x < 12) (h23 : X 23 f = nI 3) (h27 : X 27 f = nI 2)  : gm l yX7_step cX7_step 3 none (rmL 5) 0 0 A [.ref (adr 0)] (gW G A adr (rcel G adr S X)) (gW G A adr (rcel G adr S (m2 (m2 X 27 f (nI 3)) 22 0 (nI f)))) none := by
  refine gm_of (own := RX7) (by decide) rfl (Nat.le_of_ble_eq_true rfl) ?_
  intro p e s m below meth c ls F hml hr hlk hnm hK hR hl
  have hx := F.1
  have hb := F.2.1
  replace hl : lv_has ls 3 [(0, .ref (adr 0))] := hl
  refine lv_aload_n hx hb dX7_step_0 rfl (lv_at hl 0 rfl) ?_
  refine rg_22 F hK hR dX7_step_1 ?_
  refine lv_eq (hf0) ?_
  refine lv_iconst (v := nI 1) hx hb dX7_step_4 (by decide) ?_
  refine nv_isub (by omega) hx hb dX7_step_5 ?_
  refine lv_istore_n (lv' := [(1, .int (nI (f + 1 - 1))), (0, .ref (adr 0))]) hx hb dX7_step_6 rfl hl (by decide) rfl (fun ls hl => ?_)
  replace hl : lv_has ls 3 [(1, .int (nI f)), (0, .ref (adr 0))] := hl
  refine lv_aload_n hx hb dX7_step_7 rfl (lv_at hl 1 rfl) ?_
  refine rg_24 F hK hR dX7_step_8 ?_
  refine lv_iload_n hx hb dX7_step_11 rfl (lv_at hl 0 rfl) ?_
  refine ri_24 F hK hR (by omega) dX7_step_12 ?_
  refine lv_eq (h24) ?_
  refine lv_istore_n (lv' := [(2, .int (nI x)), (1, .int (nI f)), (0, .ref (adr 0))]) hx hb dX7_step_13 rfl hl (by decide) rfl (fun ls hl => ?_)
  refine lv_aload_n hx hb dX7_step_14 rfl (lv_at hl 2 rfl) ?_
  refine rg_23 F hK hR dX7_step_15 ?_
  refine lv_iload_n hx hb dX7_step_18 rfl (lv_at hl 1 rfl) ?_
  refine ri_23 F hK hR (by omega) dX7_step_19 ?_
  refine lv_eq (h23) ?_
  refine lv_tableOut (x := nI 3) (tgt := 192) hx hb dX7_step_20 (by decide) (by decide) ?_
  refine lv_aload_n hx hb dX7_step_192 rfl (lv_at hl 2 rfl) ?_
  refine rg_27 F hK hR dX7_step_193 ?_
  refine lv_iload_n hx hb dX7_step_196 rfl (lv_at hl 1 rfl) ?_
  refine lv_dup2_11 hx hb dX7_step_197 rfl rfl ?_
  refine ri_27 F hK hR (by omega) dX7_step_198 ?_
  refine lv_eq (h27) ?_
  refine lv_iconst (v := nI 1) hx hb dX7_step_199 (by decide) ?_
  refine nv_iadd hx hb dX7_step_200 ?_
  refine rs_27 F hK hR (by omega) dX7_step_201 (fun H locs hR => ?_)
  refine lv_aload_n hx hb dX7_step_202 rfl (lv_at hl 2 rfl) ?_
  refine rg_27 F hK hR dX7_step_203 ?_
  refine lv_iload_n hx hb dX7_step_206 rfl (lv_at hl 1 rfl) ?_
  refine ri_27 F hK hR (by omega) dX7_step_207 ?_
  refine lv_eq (m2_at) ?_
  refine lv_iconst (v := nI 1) hx hb dX7_step_208 (by decide) ?_
  refine nv_icmp_ne (by omega) (by omega) hx hb dX7_step_209 (tgt := 220) (by decide) (fun c_209 => ?_) (fun c_209 => absurd c_209 (by omega))
  refine lv_aload_n hx hb dX7_step_220 rfl (lv_at hl 2 rfl) ?_
  refine rg_27 F hK hR dX7_step_221 ?_
  refine lv_iload_n hx hb dX7_step_224 rfl (lv_at hl 1 rfl) ?_
  refine ri_27 F hK hR (by omega) dX7_step_225 ?_
  refine lv_eq (m2_at) ?_
  refine lv_iconst (v := nI 2) hx hb dX7_step_226 (by decide) ?_
  refine nv_icmp_ne (by omega) (by omega) hx hb dX7_step_227 (tgt := 244) (by decide) (fun c_227 => ?_) (fun c_227 => absurd c_227 (by omega))
  refine lv_aload_n hx hb dX7_step_244 rfl (lv_at hl 2 rfl) ?_
  refine lv_dup hx hb dX7_step_245 rfl ?_
  refine rg_22 F hK hR dX7_step_246 ?_
  refine lv_eq ((m2_nk (by decide)).trans (hf0)) ?_
  refine lv_iconst (v := nI 1) hx hb dX7_step_249 (by decide) ?_
  refine nv_isub (by omega) hx hb dX7_step_250 ?_
  refine rp_22 F hK hR dX7_step_251 (fun H locs hR => ?_)
  exact gr_v F hr hlk hK hR dX7_step_254 (rfl)
/-- one turn of run's loop -/
abbrev rf_ST : Type := (Nat → Nat → Int32) × (Nat → Nat → Int32)
def rf_Stp (a b : rf_ST) : Prop := (∃ f, a.2 22 0 = nI (f + 1) ∧ f < 300) ∧ ((a.2 31 0 = -1 ∧ ∀ (l : Launch) (G : gw_G) (A : Nat → Prop) (adr : Nat → Nat), gm l yX7_step cX7_step 3 none (rmL 5) 0 0 A [.ref (adr 0)] (gW G A adr (rcel G adr a.1 a.2)) (gW G A adr (rcel G adr b.1 b.2)) none) ∨ (¬ a.2 31 0 = -1 ∧ ∀ (l : Launch) (G : gw_G) (A : Nat → Prop) (adr : Nat → Nat), gm l yX7_fly cX7_fly 4 none (rmL 1) 0 0 A [.ref (adr 0)] (gW G A adr (rcel G adr a.1 a.2)) (gW G A adr (rcel G adr b.1 b.2)) none))
def rf_Run : Nat → rf_ST → rf_ST → Prop
  | 0, a, b => a = b
  | n + 1, a, b => ∃ c, rf_Stp a c ∧ rf_Run n c b
theorem rf_Run.app {n k : Nat} {a b c : rf_ST} (h1 : rf_Run n a b) (h2 : rf_Run k b c) : ∃ j, rf_Run j a c := by
  induction n generalizing a with
  | zero => exact ⟨k, by rw [show a = b from h1]; exact h2⟩
  | succ n ih =>
    obtain ⟨d, q1, q2⟩ := h1
    obtain ⟨j, q3⟩ := ih q2
    exact ⟨j + 1, d, q1, q3⟩
theorem rf_Run.one {a b : rf_ST} (h : rf_Stp a b) : rf_Run 1 a b := ⟨b, h, rfl⟩
def rf_runS (S : Nat → Nat → Int32) : Nat → Nat → Int32 := m2 (m2 (m2 (m2 S 13 0 (nI 0)) 16 0 (nI 0)) 17 0 (nI 0)) 18 0 (nI 0)
def rf_runX (X : Nat → Nat → Int32) (x mm : Nat) : Nat → Nat → Int32 := rf_push (m2 (m2 (m2 X 21 0 (nI 0)) 22 0 (nI 0)) 31 0 (-1)) 0 (nI 3) (nI x) (nI mm)
set_option maxHeartbeats 4000000 in
set_option maxRecDepth 100000 in
/-- run: no such x -/
theorem c_X7_runU (l : Launch) (G : gw_G) (A : Nat → Prop) (adr : Nat → Nat) (S X : Nat → Nat → Int32) (n : Nat) (x0 x1 : Int32) (hn0 : S 0 0 = nI n) (hn : n ≤ 12) (hno : sp_has (S 0 0) x0 = 0) : gm l yX7_run cX7_run 3 (some .int) (rmL 6) 0 0 A [.ref (adr 0), .int x0, .int x1] (gW G A adr (rcel G adr S X)) (gW G A adr (rcel G adr S X)) (some (.int (-2))) := by
  refine gm_of (own := RX7) (by decide) rfl (Nat.le_of_ble_eq_true rfl) ?_
  intro p e s m below meth c ls F hml hr hlk hnm hK hR hl
  have hx := F.1
  have hb := F.2.1
  replace hl : lv_has ls 3 [(0, .ref (adr 0)), (1, .int x0), (2, .int x1)] := hl
  refine lv_aload_n hx hb dX7_run_0 rfl (lv_at hl 0 rfl) ?_
  refine lv_iload_n hx hb dX7_run_1 rfl (lv_at hl 1 rfl) ?_
  refine gcVi (As := [.int x0]) F hK hR hml cv_X7_87 (o := 0) rfl rfl rfl (c_X7_has l G A adr S X x0) ⟨rfl, rfl⟩ ⟨Nat.le_of_ble_eq_true rfl, Nat.le_of_ble_eq_true rfl⟩ rfl rfl hl.1 (Nat.le_of_ble_eq_true rfl) dX7_run_2 ⟨Nat.zero_le _, Nat.zero_le _⟩ (fun H locs hR => ?_)
  refine lv_if_ne (tgt := 11) hx hb dX7_run_5 (by decide) (fun c_5 => absurd c_5 (fun q => q hno)) (fun c_5 => ?_)
  refine lv_bipush (v := (-2)) hx hb dX7_run_8 (by decide) ?_
  exact gr_i F hr hlk hK hR dX7_run_10 (rfl) (rfl)
set_option maxHeartbeats 4000000 in
set_option maxRecDepth 100000 in
/-- run: no such method -/
theorem c_X7_runO (l : Launch) (G : gw_G) (A : Nat → Prop) (adr : Nat → Nat) (S X : Nat → Nat → Int32) (n : Nat) (x0 x1 : Int32) (hn0 : S 0 0 = nI n) (hn : n ≤ 12) (hyes : ¬ sp_has (S 0 0) x0 = 0) (hm : x1 < nI 1 ∨ nI 3 < x1) : gm l yX7_run cX7_run 3 (some .int) (rmL 6) 0 0 A [.ref (adr 0), .int x0, .int x1] (gW G A adr (rcel G adr S X)) (gW G A adr (rcel G adr S X)) (some (.int (-3))) := by
  refine gm_of (own := RX7) (by decide) rfl (Nat.le_of_ble_eq_true rfl) ?_
  intro p e s m below meth c ls F hml hr hlk hnm hK hR hl
  have hx := F.1
  have hb := F.2.1
  replace hl : lv_has ls 3 [(0, .ref (adr 0)), (1, .int x0), (2, .int x1)] := hl
  refine lv_aload_n hx hb dX7_run_0 rfl (lv_at hl 0 rfl) ?_
  refine lv_iload_n hx hb dX7_run_1 rfl (lv_at hl 1 rfl) ?_
  refine gcVi (As := [.int x0]) F hK hR hml cv_X7_87 (o := 0) rfl rfl rfl (c_X7_has l G A adr S X x0) ⟨rfl, rfl⟩ ⟨Nat.le_of_ble_eq_true rfl, Nat.le_of_ble_eq_true rfl⟩ rfl rfl hl.1 (Nat.le_of_ble_eq_true rfl) dX7_run_2 ⟨Nat.zero_le _, Nat.zero_le _⟩ (fun H locs hR => ?_)
  refine lv_if_ne (tgt := 11) hx hb dX7_run_5 (by decide) (fun c_5 => ?_) (fun c_5 => absurd c_5 (hyes))
  refine lv_iload_n hx hb dX7_run_11 rfl (lv_at hl 2 rfl) ?_
  refine lv_iconst (v := nI 1) hx hb dX7_run_12 (by decide) ?_
  refine lv_icmp_lt (tgt := 21) hx hb dX7_run_13 (by decide) (fun c_13 => ?_) (fun c_13 => ?_)
  · have n_13 := Int32.not_le.mpr c_13
    refine lv_bipush (v := (-3)) hx hb dX7_run_21 (by decide) ?_
    exact gr_i F hr hlk hK hR dX7_run_23 (rfl) (rfl)
  · have n_13 := Int32.not_lt.mp c_13
    refine lv_iload_n hx hb dX7_run_16 rfl (lv_at hl 2 rfl) ?_
    refine lv_iconst (v := nI 3) hx hb dX7_run_17 (by decide) ?_
    refine lv_icmp_le (tgt := 24) hx hb dX7_run_18 (by decide) (fun c_18 => absurd c_18 (fun q => hm.elim c_13 (Int32.not_lt.mpr q))) (fun c_18 => ?_)
    refine lv_bipush (v := (-3)) hx hb dX7_run_21 (by decide) ?_
    exact gr_i F hr hlk hK hR dX7_run_23 (rfl) (rfl)
set_option maxHeartbeats 4000000 in
set_option maxRecDepth 100000 in
/-- run -/
theorem c_X7_runK (l : Launch) (G : gw_G) (A : Nat → Prop) (adr : Nat → Nat) (S X : Nat → Nat → Int32) (n x mm k : Nat) (S9 X9 : Nat → Nat → Int32) (hn0 : S 0 0 = nI n) (hn : n ≤ 12) (hxn : x < n) (hm1 : 1 ≤ mm) (hm3 : mm ≤ 3) (hrun : rf_Run k (rf_runS S, rf_runX X x mm) (S9, X9)) (h9 : X9 22 0 = nI 0) : gm l yX7_run cX7_run 3 (some .int) (rmL 6) 0 0 A [.ref (adr 0), .int (nI x), .int (nI mm)] (gW G A adr (rcel G adr S X)) (gW G A adr (rcel G adr S9 (m2 X9 20 0 (if X9 31 0 = nI 7 then X9 19 0 else -1)))) (some (.int (X9 31 0))) := by
  refine gm_of (own := RX7) (by decide) rfl (Nat.le_of_ble_eq_true rfl) ?_
  intro p e s m below meth c ls F hml hr hlk hnm hK hR hl
  have hx := F.1
  have hb := F.2.1
  replace hl : lv_has ls 3 [(0, .ref (adr 0)), (1, .int (nI x)), (2, .int (nI mm))] := hl
  refine lv_aload_n hx hb dX7_run_0 rfl (lv_at hl 0 rfl) ?_
  refine lv_iload_n hx hb dX7_run_1 rfl (lv_at hl 1 rfl) ?_
  refine gcVi (As := [.int (nI x)]) F hK hR hml cv_X7_87 (o := 0) rfl rfl rfl (c_X7_has l G A adr S X (nI x)) ⟨rfl, rfl⟩ ⟨Nat.le_of_ble_eq_true rfl, Nat.le_of_ble_eq_true rfl⟩ rfl rfl hl.1 (Nat.le_of_ble_eq_true rfl) dX7_run_2 ⟨Nat.zero_le _, Nat.zero_le _⟩ (fun H locs hR => ?_)
  refine lv_if_ne (tgt := 11) hx hb dX7_run_5 (by decide) (fun c_5 => ?_) (fun c_5 => absurd c_5 ((by rw [hn0]; unfold sp_has; rw [if_neg (nI_pos (by omega)), if_neg (nI_ge hxn (by omega))]; decide)))
  refine lv_iload_n hx hb dX7_run_11 rfl (lv_at hl 2 rfl) ?_
  refine lv_iconst (v := nI 1) hx hb dX7_run_12 (by decide) ?_
  refine nv_icmp_lt (by omega) (by omega) hx hb dX7_run_13 (tgt := 21) (by decide) (fun c_13 => absurd c_13 (by omega)) (fun c_13 => ?_)
  refine lv_iload_n hx hb dX7_run_16 rfl (lv_at hl 2 rfl) ?_
  refine lv_iconst (v := nI 3) hx hb dX7_run_17 (by decide) ?_
  refine nv_icmp_le (by omega) (by omega) hx hb dX7_run_18 (tgt := 24) (by decide) (fun c_18 => ?_) (fun c_18 => absurd c_18 (by omega))
  refine lv_aload_n hx hb dX7_run_24 rfl (lv_at hl 0 rfl) ?_
  refine lv_iconst (v := nI 0) hx hb dX7_run_25 (by decide) ?_
  refine rp_13 F hK hR dX7_run_26 (fun H locs hR => ?_)
  refine lv_aload_n hx hb dX7_run_29 rfl (lv_at hl 0 rfl) ?_
  refine lv_iconst (v := nI 0) hx hb dX7_run_30 (by decide) ?_
  refine rp_16 F hK hR dX7_run_31 (fun H locs hR => ?_)
  refine lv_aload_n hx hb dX7_run_34 rfl (lv_at hl 0 rfl) ?_
  refine lv_iconst (v := nI 0) hx hb dX7_run_35 (by decide) ?_
  refine rp_17 F hK hR dX7_run_36 (fun H locs hR => ?_)
  refine lv_aload_n hx hb dX7_run_39 rfl (lv_at hl 0 rfl) ?_
  refine lv_iconst (v := nI 0) hx hb dX7_run_40 (by decide) ?_
  refine rp_18 F hK hR dX7_run_41 (fun H locs hR => ?_)
  refine lv_aload_n hx hb dX7_run_44 rfl (lv_at hl 0 rfl) ?_
  refine lv_iconst (v := nI 0) hx hb dX7_run_45 (by decide) ?_
  refine rp_21 F hK hR dX7_run_46 (fun H locs hR => ?_)
  refine lv_aload_n hx hb dX7_run_49 rfl (lv_at hl 0 rfl) ?_
  refine lv_iconst (v := nI 0) hx hb dX7_run_50 (by decide) ?_
  refine rp_22 F hK hR dX7_run_51 (fun H locs hR => ?_)
  refine lv_aload_n hx hb dX7_run_54 rfl (lv_at hl 0 rfl) ?_
  refine lv_iconst (v := (-1)) hx hb dX7_run_55 (by decide) ?_
  refine rp_31 F hK hR dX7_run_56 (fun H locs hR => ?_)
  refine lv_aload_n hx hb dX7_run_59 rfl (lv_at hl 0 rfl) ?_
  refine lv_iconst (v := nI 3) hx hb dX7_run_60 (by decide) ?_
  refine lv_iload_n hx hb dX7_run_61 rfl (lv_at hl 1 rfl) ?_
  refine lv_iload_n hx hb dX7_run_62 rfl (lv_at hl 2 rfl) ?_
  refine gcVv (As := [.int (nI 3), .int (nI x), .int (nI mm)]) F hK hR hml cv_X7_122 (o := 0) rfl rfl rfl (c_X7_push l G A adr (m2 (m2 (m2 (m2 S 13 0 (nI 0)) 16 0 (nI 0)) 17 0 (nI 0)) 18 0 (nI 0)) (m2 (m2 (m2 X 21 0 (nI 0)) 22 0 (nI 0)) 31 0 (-1)) 0 (nI 3) (nI x) (nI mm) ((m2_nk (by decide)).trans (m2_at)) (by omega)) ⟨rfl, rfl⟩ ⟨Nat.le_of_ble_eq_true rfl, Nat.le_of_ble_eq_true rfl⟩ rfl rfl hl.1 (Nat.le_of_ble_eq_true rfl) dX7_run_63 ⟨Nat.zero_le _, Nat.zero_le _⟩ (fun H locs hR => ?_)
  replace hR : rB G A adr (rf_runS S) (rf_runX X x mm) s.heap H locs := hR
  refine lp_gen hR (fun H locs hR => ?_)
  generalize hab : ((rf_runS S, rf_runX X x mm) : rf_ST) = ab at hrun
  replace hR : rB G A adr ab.1 ab.2 s.heap H locs := by rw [← hab]; exact hR
  clear hab
  induction k generalizing ab ls H locs with
  | zero =>
    have e9 : ab = (S9, X9) := hrun
    subst e9
    replace hR : rB G A adr S9 X9 s.heap H locs := hR
    refine lv_aload_n hx hb dX7_run_66 rfl (lv_at hl 0 rfl) ?_
    refine rg_22 F hK hR dX7_run_67 ?_
    refine lv_eq (h9) ?_
    refine nv_if_le (by omega) hx hb dX7_run_70 (tgt := 95) (by decide) (fun c_70 => ?_) (fun c_70 => absurd c_70 (by omega))
    refine lv_aload_n hx hb dX7_run_95 rfl (lv_at hl 0 rfl) ?_
    refine lv_aload_n hx hb dX7_run_96 rfl (lv_at hl 0 rfl) ?_
    refine rg_31 F hK hR dX7_run_97 ?_
    refine lv_bipush (v := nI 7) hx hb dX7_run_100 (by decide) ?_
    refine lv_icmp_ne (tgt := 112) hx hb dX7_run_102 (by decide) (fun c_102 => ?_) (fun c_102 => ?_)
    · refine lv_iconst (v := (-1)) hx hb dX7_run_112 (by decide) ?_
      refine rp_20 F hK hR dX7_run_113 (fun H locs hR => ?_)
      refine lv_aload_n hx hb dX7_run_116 rfl (lv_at hl 0 rfl) ?_
      refine rg_31 F hK hR dX7_run_117 ?_
      refine lv_eq (m2_nk (by decide)) ?_
      exact gr_i F hr hlk hK hR dX7_run_120 (rfl) (by rw [if_neg c_102])
    · refine lv_aload_n hx hb dX7_run_105 rfl (lv_at hl 0 rfl) ?_
      refine rg_19 F hK hR dX7_run_106 ?_
      refine lv_goto (tgt := 113) hx hb dX7_run_109 (by decide) ?_
      refine rp_20 F hK hR dX7_run_113 (fun H locs hR => ?_)
      refine lv_aload_n hx hb dX7_run_116 rfl (lv_at hl 0 rfl) ?_
      refine rg_31 F hK hR dX7_run_117 ?_
      refine lv_eq (m2_nk (by decide)) ?_
      exact gr_i F hr hlk hK hR dX7_run_120 (rfl) (by rw [if_pos c_102])
  | succ k ih =>
    obtain ⟨cd, ⟨⟨f, hf1, hf2⟩, hd1⟩, hd2⟩ := hrun
    refine lv_aload_n hx hb dX7_run_66 rfl (lv_at hl 0 rfl) ?_
    refine rg_22 F hK hR dX7_run_67 ?_
    refine lv_eq (hf1) ?_
    refine nv_if_le (by omega) hx hb dX7_run_70 (tgt := 95) (by decide) (fun c_70 => absurd c_70 (by omega)) (fun c_70 => ?_)
    refine lv_aload_n hx hb dX7_run_73 rfl (lv_at hl 0 rfl) ?_
    refine rg_31 F hK hR dX7_run_74 ?_
    refine lv_iconst (v := (-1)) hx hb dX7_run_77 (by decide) ?_
    refine lv_icmp_ne (tgt := 88) hx hb dX7_run_78 (by decide) (fun c_78 => ?_) (fun c_78 => ?_)
    · have hM := (hd1.resolve_left (fun q => c_78 q.1)).2 l G A adr
      refine lv_aload_n hx hb dX7_run_88 rfl (lv_at hl 0 rfl) ?_
      refine gcVv (As := []) F hK hR hml cv_X7_179 (o := 0) rfl rfl rfl (hM) ⟨rfl, rfl⟩ ⟨Nat.le_of_ble_eq_true rfl, Nat.le_of_ble_eq_true rfl⟩ rfl rfl hl.1 (Nat.le_of_ble_eq_true rfl) dX7_run_89 ⟨Nat.zero_le _, Nat.zero_le _⟩ (fun H locs hR => ?_)
      refine lv_goto (tgt := 66) hx hb dX7_run_92 (by decide) ?_
      exact ih _ (lv_sub hl [0, 1, 2] rfl) _ _ _ hd2 hR
    · have hM := (hd1.resolve_right (fun q => q.1 c_78)).2 l G A adr
      refine lv_aload_n hx hb dX7_run_81 rfl (lv_at hl 0 rfl) ?_
      refine gcVv (As := []) F hK hR hml cv_X7_176 (o := 0) rfl rfl rfl (hM) ⟨rfl, rfl⟩ ⟨Nat.le_of_ble_eq_true rfl, Nat.le_of_ble_eq_true rfl⟩ rfl rfl hl.1 (Nat.le_of_ble_eq_true rfl) dX7_run_82 ⟨Nat.zero_le _, Nat.zero_le _⟩ (fun H locs hR => ?_)
      refine lv_goto (tgt := 66) hx hb dX7_run_85 (by decide) ?_
      exact ih _ (lv_sub hl [0, 1, 2] rfl) _ _ _ hd2 hR
