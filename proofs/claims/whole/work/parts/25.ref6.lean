/-! THE REFERENCE, 6: goOn, step, run -/
theorem sp_tell_ne {S : Nat → Nat → Int32} {ev a : Nat} {so v : Int32} (h3 : a ≠ 13) (h4 : a ≠ 14) (h5 : a ≠ 15) : sp_tell S ev so v a = S a := by
  unfold sp_tell
  split
  · rw [m2_ne h3, m2_ne h5, m2_ne h4]
  · rfl
theorem sp_ar_ne {S : Nat → Nat → Int32} {a : Nat} {w : Int32} (h : a ≠ 18) : sp_ar S w a = S a := by
  unfold sp_ar
  rw [m2_ne h]
set_option maxHeartbeats 4000000 in
set_option maxRecDepth 100000 in
/-- goOn: the guards that are behind it go -/
theorem goOn_head {p : Program} {l : Launch} {e : Env} {R : Room} {s : State} {m : MethodId} {args : Array Value} {below : List Frame} {meth : Method} {c : Code} {H : Heap} {locs : List Loc} {cells slots : Nat} {Q : State → Prop} {G : gw_G} {A : Nat → Prop} {H0 : Heap} {adr : Nat → Nat} {S X : Nat → Nat → Int32} {ls : Array Slot} (f x mm i gc gp : Nat) (ge : Nat → Nat) (F : gw_F p m c cX7_goOn s args RX7) (hR : rB G A adr S X H0 H locs) (hK : gw_K G s) (hl : lv_has ls 6 [(0, .ref (adr 0)), (1, .int (nI f))]) (hff : f < 300) (h24 : X 24 f = nI x) (hxx : x < 12) (h25 : X 25 f = nI mm) (hmm : mm < 4) (h26 : X 26 f = nI i) (hi : i ≤ 10) (h28 : X 28 f = nI gc) (hgc : gc ≤ 10) (hge : ∀ j, j < gc → X 29 (10 * f + j) = nI (ge j) ∧ ge j ≤ 10) (hgp : gp ≤ gc) (hpop : ∀ j, gp ≤ j → j < gc → ge j ≤ i) (htop : gp = 0 ∨ i < ge (gp - 1)) (K : ∀ (H : Heap) (locs : List Loc) (ls : Array Slot), rB G A adr S (m2 X 28 f (nI gp)) H0 H locs → lv_has ls 6 [(2, .int (nI (4 * x + mm))), (0, .ref (adr 0)), (1, .int (nI f))] → W p l e R s m args below meth c H locs cells slots Q (F0 m 65 ls [])) : W p l e R s m args below meth c H locs cells slots Q (F0 m 0 ls []) := by
  have hx := F.1
  have hb := F.2.1
  refine lv_iconst (v := nI 4) hx hb dX7_goOn_0 (by decide) ?_
  refine lv_aload_n hx hb dX7_goOn_1 rfl (lv_at hl 0 rfl) ?_
  refine rg_24 F hK hR dX7_goOn_2 ?_
  refine lv_iload_n hx hb dX7_goOn_5 rfl (lv_at hl 1 rfl) ?_
  refine ri_24 F hK hR (by omega) dX7_goOn_6 ?_
  refine lv_eq (h24) ?_
  refine nv_imul hx hb dX7_goOn_7 ?_
  refine lv_aload_n hx hb dX7_goOn_8 rfl (lv_at hl 0 rfl) ?_
  refine rg_25 F hK hR dX7_goOn_9 ?_
  refine lv_iload_n hx hb dX7_goOn_12 rfl (lv_at hl 1 rfl) ?_
  refine ri_25 F hK hR (by omega) dX7_goOn_13 ?_
  refine lv_eq (h25) ?_
  refine nv_iadd hx hb dX7_goOn_14 ?_
  refine lv_istore_n (lv' := [(2, .int (nI (4 * x + mm))), (0, .ref (adr 0)), (1, .int (nI f))]) hx hb dX7_goOn_15 rfl hl (by decide) rfl (fun ls hl => ?_)
  refine lp_gen hR (fun H locs hR => ?_)
  obtain ⟨dd, rfl⟩ : ∃ dd, gc = gp + dd := ⟨gc - gp, by omega⟩
  replace hR : rB G A adr S (m2 X 28 f (nI (gp + dd))) H0 H locs := gw_B.to hR (by rw [m2_id h28])
  clear h28
  have hdd : gp + dd ≤ 10 := hgc
  clear hgc hgp
  induction dd generalizing ls H locs with
  | zero =>
    refine lv_aload_n hx hb dX7_goOn_16 rfl (lv_at hl 1 rfl) ?_
    refine rg_28 F hK hR dX7_goOn_17 ?_
    refine lv_iload_n hx hb dX7_goOn_20 rfl (lv_at hl 2 rfl) ?_
    refine ri_28 F hK hR (by omega) dX7_goOn_21 ?_
    refine lv_eq (m2_at) ?_
    refine nv_if_le (by omega) hx hb dX7_goOn_22 (tgt := 65) (by decide) (fun c_22 => ?_) (fun c_22 => ?_)
    · have n_22 : ¬ (0 < gp) := by omega
      exact K _ _ _ hR (lv_sub hl [0, 1, 2] rfl)
    · have n_22 : ¬ (gp ≤ 0) := by omega
      have e29 : X 29 (10 * f + gp - 1) = nI (ge (gp - 1)) := by rw [show 10 * f + gp - 1 = 10 * f + (gp - 1) by omega]; exact (hge _ (by omega)).1
      have b29 := (hge (gp - 1) (by omega)).2
      refine lv_aload_n hx hb dX7_goOn_25 rfl (lv_at hl 1 rfl) ?_
      refine rg_29 F hK hR dX7_goOn_26 ?_
      refine lv_bipush (v := nI 10) hx hb dX7_goOn_29 (by decide) ?_
      refine lv_iload_n hx hb dX7_goOn_31 rfl (lv_at hl 2 rfl) ?_
      refine nv_imul hx hb dX7_goOn_32 ?_
      refine lv_aload_n hx hb dX7_goOn_33 rfl (lv_at hl 1 rfl) ?_
      refine rg_28 F hK hR dX7_goOn_34 ?_
      refine lv_iload_n hx hb dX7_goOn_37 rfl (lv_at hl 2 rfl) ?_
      refine ri_28 F hK hR (by omega) dX7_goOn_38 ?_
      refine lv_eq (m2_at) ?_
      refine nv_iadd hx hb dX7_goOn_39 ?_
      refine lv_iconst (v := nI 1) hx hb dX7_goOn_40 (by decide) ?_
      refine nv_isub (by omega) hx hb dX7_goOn_41 ?_
      refine ri_29 F hK hR (by omega) dX7_goOn_42 ?_
      refine lv_eq ((m2_nk (by decide)).trans (e29)) ?_
      refine lv_aload_n hx hb dX7_goOn_43 rfl (lv_at hl 1 rfl) ?_
      refine rg_26 F hK hR dX7_goOn_44 ?_
      refine lv_iload_n hx hb dX7_goOn_47 rfl (lv_at hl 2 rfl) ?_
      refine ri_26 F hK hR (by omega) dX7_goOn_48 ?_
      refine lv_eq ((m2_nk (by decide)).trans (h26)) ?_
      refine nv_icmp_gt (by omega) (by omega) hx hb dX7_goOn_49 (tgt := 65) (by decide) (fun c_49 => ?_) (fun c_49 => absurd c_49 (by omega))
      exact K _ _ _ hR (lv_sub hl [0, 1, 2] rfl)
  | succ dd ih =>
    refine lv_aload_n hx hb dX7_goOn_16 rfl (lv_at hl 1 rfl) ?_
    refine rg_28 F hK hR dX7_goOn_17 ?_
    refine lv_iload_n hx hb dX7_goOn_20 rfl (lv_at hl 2 rfl) ?_
    refine ri_28 F hK hR (by omega) dX7_goOn_21 ?_
    refine lv_eq (m2_at) ?_
    refine nv_if_le (by omega) hx hb dX7_goOn_22 (tgt := 65) (by decide) (fun c_22 => absurd c_22 (by omega)) (fun c_22 => ?_)
    have e29 : X 29 (10 * f + (gp + (dd + 1)) - 1) = nI (ge (gp + dd)) := by rw [show 10 * f + (gp + (dd + 1)) - 1 = 10 * f + (gp + dd) by omega]; exact (hge _ (by omega)).1
    have b29 := (hge (gp + dd) (by omega)).2
    have p29 := hpop (gp + dd) (by omega) (by omega)
    refine lv_aload_n hx hb dX7_goOn_25 rfl (lv_at hl 1 rfl) ?_
    refine rg_29 F hK hR dX7_goOn_26 ?_
    refine lv_bipush (v := nI 10) hx hb dX7_goOn_29 (by decide) ?_
    refine lv_iload_n hx hb dX7_goOn_31 rfl (lv_at hl 2 rfl) ?_
    refine nv_imul hx hb dX7_goOn_32 ?_
    refine lv_aload_n hx hb dX7_goOn_33 rfl (lv_at hl 1 rfl) ?_
    refine rg_28 F hK hR dX7_goOn_34 ?_
    refine lv_iload_n hx hb dX7_goOn_37 rfl (lv_at hl 2 rfl) ?_
    refine ri_28 F hK hR (by omega) dX7_goOn_38 ?_
    refine lv_eq (m2_at) ?_
    refine nv_iadd hx hb dX7_goOn_39 ?_
    refine lv_iconst (v := nI 1) hx hb dX7_goOn_40 (by decide) ?_
    refine nv_isub (by omega) hx hb dX7_goOn_41 ?_
    refine ri_29 F hK hR (by omega) dX7_goOn_42 ?_
    refine lv_eq ((m2_nk (by decide)).trans (e29)) ?_
    refine lv_aload_n hx hb dX7_goOn_43 rfl (lv_at hl 1 rfl) ?_
    refine rg_26 F hK hR dX7_goOn_44 ?_
    refine lv_iload_n hx hb dX7_goOn_47 rfl (lv_at hl 2 rfl) ?_
    refine ri_26 F hK hR (by omega) dX7_goOn_48 ?_
    refine lv_eq ((m2_nk (by decide)).trans (h26)) ?_
    refine nv_icmp_gt (by omega) (by omega) hx hb dX7_goOn_49 (tgt := 65) (by decide) (fun c_49 => absurd c_49 (by omega)) (fun c_49 => ?_)
    refine lv_aload_n hx hb dX7_goOn_52 rfl (lv_at hl 1 rfl) ?_
    refine rg_28 F hK hR dX7_goOn_53 ?_
    refine lv_iload_n hx hb dX7_goOn_56 rfl (lv_at hl 2 rfl) ?_
    refine lv_dup2_11 hx hb dX7_goOn_57 rfl rfl ?_
    refine ri_28 F hK hR (by omega) dX7_goOn_58 ?_
    refine lv_eq (m2_at) ?_
    refine lv_iconst (v := nI 1) hx hb dX7_goOn_59 (by decide) ?_
    refine nv_isub (by omega) hx hb dX7_goOn_60 ?_
    refine rs_28 F hK hR (by omega) dX7_goOn_61 (fun H locs hR => ?_)
    replace hR : rB G A adr S (m2 X 28 f (nI (gp + dd))) H0 H locs := gw_B.to hR (by rw [m2_tw]; rfl)
    refine lv_goto (tgt := 16) hx hb dX7_goOn_62 (by decide) ?_
    exact ih _ (lv_sub hl [0, 1, 2] rfl) _ _ (fun j h => hge j (by omega)) (fun j h1 h2 => hpop j h1 (by omega)) hR (by omega)
set_option maxHeartbeats 4000000 in
set_option maxRecDepth 100000 in
theorem c_X7_goOnE (l : Launch) (G : gw_G) (A : Nat → Prop) (adr : Nat → Nat) (S X : Nat → Nat → Int32) (f x mm i gc gp : Nat) (ge : Nat → Nat) (wi : Nat) (hff : f < 300) (h24 : X 24 f = nI x) (hxx : x < 12) (h25 : X 25 f = nI mm) (hmm : mm < 4) (h26 : X 26 f = nI i) (hi : i ≤ 10) (h28 : X 28 f = nI gc) (hgc : gc ≤ 10) (hge : ∀ j, j < gc → X 29 (10 * f + j) = nI (ge j) ∧ ge j ≤ 10) (hgp : gp ≤ gc) (hpop : ∀ j, gp ≤ j → j < gc → ge j ≤ i) (htop : gp = 0 ∨ i < ge (gp - 1)) (hac : S 10 (4 * x + mm) = nI i) (hf0 : X 22 0 = nI (f + 1)) (hwi : X 21 0 = nI (wi + 1)) (hw8 : wi ≤ 8) : gm l yX7_goOn cX7_goOn 6 none (rmL 4) 0 0 A [.ref (adr 0), .int (nI f)] (gW G A adr (rcel G adr S X)) (gW G A adr (rcel G adr S (m2 (m2 (m2 X 28 f (nI gp)) 21 0 (nI wi)) 22 0 (nI f)))) none := by
  refine gm_of (own := RX7) (by decide) rfl (Nat.le_of_ble_eq_true rfl) ?_
  intro p e s m below meth c ls F hml hr hlk hnm hK hR hl
  have hx := F.1
  have hb := F.2.1
  have hl : lv_has ls 6 [(0, .ref (adr 0)), (1, .int (nI f))] := hl
  refine goOn_head f x mm i gc gp ge F hR hK hl hff h24 hxx h25 hmm h26 hi h28 hgc hge hgp hpop htop (fun H locs ls hR hl => ?_)
  refine lv_aload_n hx hb dX7_goOn_65 rfl (lv_at hl 1 rfl) ?_
  refine rg_26 F hK hR dX7_goOn_66 ?_
  refine lv_iload_n hx hb dX7_goOn_69 rfl (lv_at hl 2 rfl) ?_
  refine ri_26 F hK hR (by omega) dX7_goOn_70 ?_
  refine lv_eq ((m2_nk (by decide)).trans (h26)) ?_
  refine lv_aload_n hx hb dX7_goOn_71 rfl (lv_at hl 1 rfl) ?_
  refine rg_10 F hK hR dX7_goOn_72 ?_
  refine lv_iload_n hx hb dX7_goOn_75 rfl (lv_at hl 0 rfl) ?_
  refine ri_10 F hK hR (by omega) dX7_goOn_76 ?_
  refine lv_eq (hac) ?_
  refine nv_icmp_ne (by omega) (by omega) hx hb dX7_goOn_77 (tgt := 101) (by decide) (fun c_77 => absurd c_77 (fun q => q rfl)) (fun c_77 => ?_)
  refine lv_aload_n hx hb dX7_goOn_80 rfl (lv_at hl 1 rfl) ?_
  refine lv_dup hx hb dX7_goOn_81 rfl ?_
  refine rg_21 F hK hR dX7_goOn_82 ?_
  refine lv_eq ((m2_nk (by decide)).trans (hwi)) ?_
  refine lv_iconst (v := nI 1) hx hb dX7_goOn_85 (by decide) ?_
  refine nv_isub (by omega) hx hb dX7_goOn_86 ?_
  refine rp_21 F hK hR dX7_goOn_87 (fun H locs hR => ?_)
  refine lv_aload_n hx hb dX7_goOn_90 rfl (lv_at hl 1 rfl) ?_
  refine lv_dup hx hb dX7_goOn_91 rfl ?_
  refine rg_22 F hK hR dX7_goOn_92 ?_
  refine lv_eq (((m2_nk (by decide)).trans (m2_nk (by decide))).trans (hf0)) ?_
  refine lv_iconst (v := nI 1) hx hb dX7_goOn_95 (by decide) ?_
  refine nv_isub (by omega) hx hb dX7_goOn_96 ?_
  refine rp_22 F hK hR dX7_goOn_97 (fun H locs hR => ?_)
  exact gr_v F hr hlk hK hR dX7_goOn_100 (rfl)
set_option maxHeartbeats 4000000 in
set_option maxRecDepth 100000 in
theorem c_X7_goOnW (l : Launch) (G : gw_G) (A : Nat → Prop) (adr : Nat → Nat) (S X : Nat → Nat → Int32) (f x mm i gc gp : Nat) (ge : Nat → Nat) (ac : Nat) (hff : f < 300) (h24 : X 24 f = nI x) (hxx : x < 12) (h25 : X 25 f = nI mm) (hmm : mm < 4) (h26 : X 26 f = nI i) (hi : i ≤ 10) (h28 : X 28 f = nI gc) (hgc : gc ≤ 10) (hge : ∀ j, j < gc → X 29 (10 * f + j) = nI (ge j) ∧ ge j ≤ 10) (hgp : gp ≤ gc) (hpop : ∀ j, gp ≤ j → j < gc → ge j ≤ i) (htop : gp = 0 ∨ i < ge (gp - 1)) (hac : S 10 (4 * x + mm) = nI ac) (hia : i < ac) (hac10 : ac ≤ 10) (h27 : X 27 f = nI 0) (hwk : S 17 0 = nI 80) : gm l yX7_goOn cX7_goOn 6 none (rmL 4) 0 0 A [.ref (adr 0), .int (nI f)] (gW G A adr (rcel G adr S X)) (gW G A adr (rcel G adr (sp_ar S (nI 10)) (m2 (m2 X 28 f (nI gp)) 31 0 (nI 10)))) none := by
  refine gm_of (own := RX7) (by decide) rfl (Nat.le_of_ble_eq_true rfl) ?_
  intro p e s m below meth c ls F hml hr hlk hnm hK hR hl
  have hx := F.1
  have hb := F.2.1
  have hl : lv_has ls 6 [(0, .ref (adr 0)), (1, .int (nI f))] := hl
  refine goOn_head f x mm i gc gp ge F hR hK hl hff h24 hxx h25 hmm h26 hi h28 hgc hge hgp hpop htop (fun H locs ls hR hl => ?_)
  refine lv_aload_n hx hb dX7_goOn_65 rfl (lv_at hl 1 rfl) ?_
  refine rg_26 F hK hR dX7_goOn_66 ?_
  refine lv_iload_n hx hb dX7_goOn_69 rfl (lv_at hl 2 rfl) ?_
  refine ri_26 F hK hR (by omega) dX7_goOn_70 ?_
  refine lv_eq ((m2_nk (by decide)).trans (h26)) ?_
  refine lv_aload_n hx hb dX7_goOn_71 rfl (lv_at hl 1 rfl) ?_
  refine rg_10 F hK hR dX7_goOn_72 ?_
  refine lv_iload_n hx hb dX7_goOn_75 rfl (lv_at hl 0 rfl) ?_
  refine ri_10 F hK hR (by omega) dX7_goOn_76 ?_
  refine lv_eq (hac) ?_
  refine nv_icmp_ne (by omega) (by omega) hx hb dX7_goOn_77 (tgt := 101) (by decide) (fun c_77 => ?_) (fun c_77 => absurd c_77 (by omega))
  refine lv_bipush (v := nI 40) hx hb dX7_goOn_101 (by decide) ?_
  refine lv_iload_n hx hb dX7_goOn_103 rfl (lv_at hl 0 rfl) ?_
  refine nv_imul hx hb dX7_goOn_104 ?_
  refine lv_iconst (v := nI 4) hx hb dX7_goOn_105 (by decide) ?_
  refine lv_aload_n hx hb dX7_goOn_106 rfl (lv_at hl 1 rfl) ?_
  refine rg_26 F hK hR dX7_goOn_107 ?_
  refine lv_iload_n hx hb dX7_goOn_110 rfl (lv_at hl 2 rfl) ?_
  refine ri_26 F hK hR (by omega) dX7_goOn_111 ?_
  refine lv_eq ((m2_nk (by decide)).trans (h26)) ?_
  refine nv_imul hx hb dX7_goOn_112 ?_
  refine nv_iadd hx hb dX7_goOn_113 ?_
  refine lv_istore_n (lv' := [(3, .int (nI (40 * (4 * x + mm) + 4 * i))), (2, .int (nI (4 * x + mm))), (0, .ref (adr 0)), (1, .int (nI f))]) hx hb dX7_goOn_114 rfl hl (by decide) rfl (fun ls hl => ?_)
  refine lv_aload_n hx hb dX7_goOn_115 rfl (lv_at hl 2 rfl) ?_
  refine rg_27 F hK hR dX7_goOn_116 ?_
  refine lv_iload_n hx hb dX7_goOn_119 rfl (lv_at hl 3 rfl) ?_
  refine ri_27 F hK hR (by omega) dX7_goOn_120 ?_
  refine lv_eq ((m2_nk (by decide)).trans (h27)) ?_
  refine nv_if_ne (by omega) hx hb dX7_goOn_121 (tgt := 210) (by decide) (fun c_121 => absurd c_121 (by omega)) (fun c_121 => ?_)
  refine lv_aload_n hx hb dX7_goOn_124 rfl (lv_at hl 2 rfl) ?_
  refine rg_17 F hK hR dX7_goOn_125 ?_
  refine lv_eq (hwk) ?_
  refine lv_bipush (v := nI 80) hx hb dX7_goOn_128 (by decide) ?_
  refine nv_icmp_ne (by omega) (by omega) hx hb dX7_goOn_130 (tgt := 144) (by decide) (fun c_130 => absurd c_130 (by omega)) (fun c_130 => ?_)
  refine lv_aload_n hx hb dX7_goOn_133 rfl (lv_at hl 2 rfl) ?_
  refine lv_aload_n hx hb dX7_goOn_134 rfl (lv_at hl 2 rfl) ?_
  refine lv_bipush (v := nI 10) hx hb dX7_goOn_135 (by decide) ?_
  refine gcVi (As := [.int (nI 10)]) F hK hR hml cv_X7_111 (o := 0) rfl rfl rfl (c_X7_arise l G A adr S (m2 X 28 f (nI gp)) (nI 10)) ⟨rfl, rfl⟩ ⟨Nat.le_of_ble_eq_true rfl, Nat.le_of_ble_eq_true rfl⟩ rfl rfl hl.1 (Nat.le_of_ble_eq_true rfl) dX7_goOn_137 ⟨Nat.zero_le _, Nat.zero_le _⟩ (fun H locs hR => ?_)
  refine rp_31 F hK hR dX7_goOn_140 (fun H locs hR => ?_)
  exact gr_v F hr hlk hK hR dX7_goOn_143 (rfl)
set_option maxHeartbeats 4000000 in
set_option maxRecDepth 100000 in
theorem c_X7_goOnZ (l : Launch) (G : gw_G) (A : Nat → Prop) (adr : Nat → Nat) (S X : Nat → Nat → Int32) (f x mm i gc gp : Nat) (ge : Nat → Nat) (ac so wk z ev : Nat) (ra rb rc : Int32) (hff : f < 300) (h24 : X 24 f = nI x) (hxx : x < 12) (h25 : X 25 f = nI mm) (hmm : mm < 4) (h26 : X 26 f = nI i) (hi : i ≤ 10) (h28 : X 28 f = nI gc) (hgc : gc ≤ 10) (hge : ∀ j, j < gc → X 29 (10 * f + j) = nI (ge j) ∧ ge j ≤ 10) (hgp : gp ≤ gc) (hpop : ∀ j, gp ≤ j → j < gc → ge j ≤ i) (htop : gp = 0 ∨ i < ge (gp - 1)) (hac : S 10 (4 * x + mm) = nI ac) (hia : i < ac) (hac10 : ac ≤ 10) (hso : S 11 (40 * (4 * x + mm) + 4 * i) = nI so) (hra : S 11 (40 * (4 * x + mm) + 4 * i + 1) = ra) (hrb : S 11 (40 * (4 * x + mm) + 4 * i + 2) = rb) (hrc : S 11 (40 * (4 * x + mm) + 4 * i + 3) = rc) (hso12 : so ≤ 12) (h27 : X 27 f = nI 0) (hwk : S 17 0 = nI wk) (hwk80 : wk < 80) (hbc : 1 ≤ so → so ≤ 3 → ∃ z g, z < 12 ∧ g < 4 ∧ rb = nI z ∧ rc = nI g) (hwt : rf_wants (m2 S 17 0 (nI (wk + 1))) so ra rb rc = nI z) (hz : z < 12) (hev : S 13 0 = nI ev) (he : ev ≤ 60) (hf0 : X 22 0 = nI (f + 1)) (hf1 : f + 1 < 300) : gm l yX7_goOn cX7_goOn 6 none (rmL 4) 0 0 A [.ref (adr 0), .int (nI f)] (gW G A adr (rcel G adr S X)) (gW G A adr (rcel G adr (rf_wantS (m2 S 17 0 (nI (wk + 1))) ev z) (rf_wantX (m2 S 17 0 (nI (wk + 1))) (m2 (m2 X 28 f (nI gp)) 27 f (nI 1)) (f + 1) z))) none := by
  refine gm_of (own := RX7) (by decide) rfl (Nat.le_of_ble_eq_true rfl) ?_
  intro p e s m below meth c ls F hml hr hlk hnm hK hR hl
  have hx := F.1
  have hb := F.2.1
  have hl : lv_has ls 6 [(0, .ref (adr 0)), (1, .int (nI f))] := hl
  refine goOn_head f x mm i gc gp ge F hR hK hl hff h24 hxx h25 hmm h26 hi h28 hgc hge hgp hpop htop (fun H locs ls hR hl => ?_)
  refine lv_aload_n hx hb dX7_goOn_65 rfl (lv_at hl 1 rfl) ?_
  refine rg_26 F hK hR dX7_goOn_66 ?_
  refine lv_iload_n hx hb dX7_goOn_69 rfl (lv_at hl 2 rfl) ?_
  refine ri_26 F hK hR (by omega) dX7_goOn_70 ?_
  refine lv_eq ((m2_nk (by decide)).trans (h26)) ?_
  refine lv_aload_n hx hb dX7_goOn_71 rfl (lv_at hl 1 rfl) ?_
  refine rg_10 F hK hR dX7_goOn_72 ?_
  refine lv_iload_n hx hb dX7_goOn_75 rfl (lv_at hl 0 rfl) ?_
  refine ri_10 F hK hR (by omega) dX7_goOn_76 ?_
  refine lv_eq (hac) ?_
  refine nv_icmp_ne (by omega) (by omega) hx hb dX7_goOn_77 (tgt := 101) (by decide) (fun c_77 => ?_) (fun c_77 => absurd c_77 (by omega))
  refine lv_bipush (v := nI 40) hx hb dX7_goOn_101 (by decide) ?_
  refine lv_iload_n hx hb dX7_goOn_103 rfl (lv_at hl 0 rfl) ?_
  refine nv_imul hx hb dX7_goOn_104 ?_
  refine lv_iconst (v := nI 4) hx hb dX7_goOn_105 (by decide) ?_
  refine lv_aload_n hx hb dX7_goOn_106 rfl (lv_at hl 1 rfl) ?_
  refine rg_26 F hK hR dX7_goOn_107 ?_
  refine lv_iload_n hx hb dX7_goOn_110 rfl (lv_at hl 2 rfl) ?_
  refine ri_26 F hK hR (by omega) dX7_goOn_111 ?_
  refine lv_eq ((m2_nk (by decide)).trans (h26)) ?_
  refine nv_imul hx hb dX7_goOn_112 ?_
  refine nv_iadd hx hb dX7_goOn_113 ?_
  refine lv_istore_n (lv' := [(3, .int (nI (40 * (4 * x + mm) + 4 * i))), (2, .int (nI (4 * x + mm))), (0, .ref (adr 0)), (1, .int (nI f))]) hx hb dX7_goOn_114 rfl hl (by decide) rfl (fun ls hl => ?_)
  refine lv_aload_n hx hb dX7_goOn_115 rfl (lv_at hl 2 rfl) ?_
  refine rg_27 F hK hR dX7_goOn_116 ?_
  refine lv_iload_n hx hb dX7_goOn_119 rfl (lv_at hl 3 rfl) ?_
  refine ri_27 F hK hR (by omega) dX7_goOn_120 ?_
  refine lv_eq ((m2_nk (by decide)).trans (h27)) ?_
  refine nv_if_ne (by omega) hx hb dX7_goOn_121 (tgt := 210) (by decide) (fun c_121 => absurd c_121 (by omega)) (fun c_121 => ?_)
  refine lv_aload_n hx hb dX7_goOn_124 rfl (lv_at hl 2 rfl) ?_
  refine rg_17 F hK hR dX7_goOn_125 ?_
  refine lv_eq (hwk) ?_
  refine lv_bipush (v := nI 80) hx hb dX7_goOn_128 (by decide) ?_
  refine nv_icmp_ne (by omega) (by omega) hx hb dX7_goOn_130 (tgt := 144) (by decide) (fun c_130 => ?_) (fun c_130 => absurd c_130 (by omega))
  refine lv_aload_n hx hb dX7_goOn_144 rfl (lv_at hl 2 rfl) ?_
  refine lv_dup hx hb dX7_goOn_145 rfl ?_
  refine rg_17 F hK hR dX7_goOn_146 ?_
  refine lv_eq (hwk) ?_
  refine lv_iconst (v := nI 1) hx hb dX7_goOn_149 (by decide) ?_
  refine nv_iadd hx hb dX7_goOn_150 ?_
  refine rp_17 F hK hR dX7_goOn_151 (fun H locs hR => ?_)
  refine lv_aload_n hx hb dX7_goOn_154 rfl (lv_at hl 2 rfl) ?_
  refine lv_aload_n hx hb dX7_goOn_155 rfl (lv_at hl 2 rfl) ?_
  refine rg_11 F hK hR dX7_goOn_156 ?_
  refine lv_iload_n hx hb dX7_goOn_159 rfl (lv_at hl 0 rfl) ?_
  refine ri_11 F hK hR (by omega) dX7_goOn_160 ?_
  refine lv_eq ((m2_nk (by decide)).trans (hso)) ?_
  refine lv_aload_n hx hb dX7_goOn_161 rfl (lv_at hl 2 rfl) ?_
  refine rg_11 F hK hR dX7_goOn_162 ?_
  refine lv_iload_n hx hb dX7_goOn_165 rfl (lv_at hl 0 rfl) ?_
  refine lv_iconst (v := nI 1) hx hb dX7_goOn_166 (by decide) ?_
  refine nv_iadd hx hb dX7_goOn_167 ?_
  refine ri_11 F hK hR (by omega) dX7_goOn_168 ?_
  refine lv_eq ((m2_nk (by decide)).trans (hra)) ?_
  refine lv_aload_n hx hb dX7_goOn_169 rfl (lv_at hl 2 rfl) ?_
  refine rg_11 F hK hR dX7_goOn_170 ?_
  refine lv_iload_n hx hb dX7_goOn_173 rfl (lv_at hl 0 rfl) ?_
  refine lv_iconst (v := nI 2) hx hb dX7_goOn_174 (by decide) ?_
  refine nv_iadd hx hb dX7_goOn_175 ?_
  refine ri_11 F hK hR (by omega) dX7_goOn_176 ?_
  refine lv_eq ((m2_nk (by decide)).trans (hrb)) ?_
  refine lv_aload_n hx hb dX7_goOn_177 rfl (lv_at hl 2 rfl) ?_
  refine rg_11 F hK hR dX7_goOn_178 ?_
  refine lv_iload_n hx hb dX7_goOn_181 rfl (lv_at hl 0 rfl) ?_
  refine lv_iconst (v := nI 3) hx hb dX7_goOn_182 (by decide) ?_
  refine nv_iadd hx hb dX7_goOn_183 ?_
  refine ri_11 F hK hR (by omega) dX7_goOn_184 ?_
  refine lv_eq ((m2_nk (by decide)).trans (hrc)) ?_
  refine gcVi (As := [.int (nI so), .int ra, .int rb, .int rc]) F hK hR hml cv_X7_148 (o := 0) rfl rfl rfl (c_X7_wants l G A adr (m2 S 17 0 (nI (wk + 1))) (m2 X 28 f (nI gp)) so ra rb rc (by omega) hbc) ⟨rfl, rfl⟩ ⟨Nat.le_of_ble_eq_true rfl, Nat.le_of_ble_eq_true rfl⟩ rfl rfl hl.1 (Nat.le_of_ble_eq_true rfl) dX7_goOn_185 ⟨Nat.zero_le _, Nat.zero_le _⟩ (fun H locs hR => ?_)
  refine lv_eq (hwt) ?_
  refine lv_istore (lv' := [(4, .int (nI z)), (3, .int (nI (40 * (4 * x + mm) + 4 * i))), (2, .int (nI (4 * x + mm))), (0, .ref (adr 0)), (1, .int (nI f))]) hx hb dX7_goOn_188 hl (by decide) rfl (fun ls hl => ?_)
  refine lv_aload_n hx hb dX7_goOn_190 rfl (lv_at hl 3 rfl) ?_
  refine rg_27 F hK hR dX7_goOn_191 ?_
  refine lv_iload_n hx hb dX7_goOn_194 rfl (lv_at hl 4 rfl) ?_
  refine lv_iconst (v := nI 1) hx hb dX7_goOn_195 (by decide) ?_
  refine rs_27 F hK hR (by omega) dX7_goOn_196 (fun H locs hR => ?_)
  refine lv_iload hx hb dX7_goOn_197 (lv_at hl 0 rfl) ?_
  refine lv_iconst (v := (-1)) hx hb dX7_goOn_199 (by decide) ?_
  refine lv_icmp_eq (tgt := 210) hx hb dX7_goOn_200 (by decide) (fun c_200 => absurd c_200 (nI_m1 (by omega))) (fun c_200 => ?_)
  refine lv_aload_n hx hb dX7_goOn_203 rfl (lv_at hl 3 rfl) ?_
  refine lv_iload hx hb dX7_goOn_204 (lv_at hl 0 rfl) ?_
  refine gcVv (As := [.int (nI z)]) F hK hR hml cv_X7_133 (o := 0) rfl rfl rfl (c_X7_want l G A adr (m2 S 17 0 (nI (wk + 1))) (m2 (m2 X 28 f (nI gp)) 27 f (nI 1)) ev (f + 1) z ((m2_nk (by decide)).trans (hev)) (by omega) (((m2_nk (by decide)).trans (m2_nk (by decide))).trans (hf0)) (by omega) (by omega)) ⟨rfl, rfl⟩ ⟨Nat.le_of_ble_eq_true rfl, Nat.le_of_ble_eq_true rfl⟩ rfl rfl hl.1 (Nat.le_of_ble_eq_true rfl) dX7_goOn_206 ⟨Nat.zero_le _, Nat.zero_le _⟩ (fun H locs hR => ?_)
  exact gr_v F hr hlk hK hR dX7_goOn_209 (rfl)
set_option maxHeartbeats 4000000 in
set_option maxRecDepth 100000 in
theorem c_X7_goOnD0 (l : Launch) (G : gw_G) (A : Nat → Prop) (adr : Nat → Nat) (S X : Nat → Nat → Int32) (f x mm i gc gp : Nat) (ge : Nat → Nat) (ac so wk : Nat) (ra rb rc : Int32) (ev : Nat) (hff : f < 300) (h24 : X 24 f = nI x) (hxx : x < 12) (h25 : X 25 f = nI mm) (hmm : mm < 4) (h26 : X 26 f = nI i) (hi : i ≤ 10) (h28 : X 28 f = nI gc) (hgc : gc ≤ 10) (hge : ∀ j, j < gc → X 29 (10 * f + j) = nI (ge j) ∧ ge j ≤ 10) (hgp : gp ≤ gc) (hpop : ∀ j, gp ≤ j → j < gc → ge j ≤ i) (htop : gp = 0 ∨ i < ge (gp - 1)) (hac : S 10 (4 * x + mm) = nI ac) (hia : i < ac) (hac10 : ac ≤ 10) (hso : S 11 (40 * (4 * x + mm) + 4 * i) = nI so) (hra : S 11 (40 * (4 * x + mm) + 4 * i + 1) = ra) (hrb : S 11 (40 * (4 * x + mm) + 4 * i + 2) = rb) (hrc : S 11 (40 * (4 * x + mm) + 4 * i + 3) = rc) (hso12 : so ≤ 12) (h27 : X 27 f = nI 0) (hwk : S 17 0 = nI wk) (hwk80 : wk < 80) (hbc : 1 ≤ so → so ≤ 3 → ∃ z g, z < 12 ∧ g < 4 ∧ rb = nI z ∧ rc = nI g) (hwt : rf_wants (m2 S 17 0 (nI (wk + 1))) so ra rb rc = -1) (hev : S 13 0 = nI ev) (he : ev ≤ 60) (h7 : so ≠ 7) (h11 : so ≠ 11) (hv : ¬ sp_areIn so ra rb rc = 0) (hb3 : 1 ≤ so → so ≤ 3 → ∃ z, z < 12 ∧ rb = nI z) (hrow : ∀ x, x < 12 → ∃ r, r ≤ 21 ∧ S 8 x = nI r) : gm l yX7_goOn cX7_goOn 6 none (rmL 4) 0 0 A [.ref (adr 0), .int (nI f)] (gW G A adr (rcel G adr S X)) (gW G A adr (rcel G adr (sp_doS (m2 S 17 0 (nI (wk + 1))) ev x so ra rb rc) (m2 (m2 (m2 (m2 (m2 X 28 f (nI gp)) 27 f (nI 1)) 27 f (nI 0)) 26 f (nI (i + 1))) 31 0 (sp_doR (m2 S 17 0 (nI (wk + 1))) x so ra rb rc)))) none := by
  refine gm_of (own := RX7) (by decide) rfl (Nat.le_of_ble_eq_true rfl) ?_
  intro p e s m below meth c ls F hml hr hlk hnm hK hR hl
  have hx := F.1
  have hb := F.2.1
  have hl : lv_has ls 6 [(0, .ref (adr 0)), (1, .int (nI f))] := hl
  refine goOn_head f x mm i gc gp ge F hR hK hl hff h24 hxx h25 hmm h26 hi h28 hgc hge hgp hpop htop (fun H locs ls hR hl => ?_)
  refine lv_aload_n hx hb dX7_goOn_65 rfl (lv_at hl 1 rfl) ?_
  refine rg_26 F hK hR dX7_goOn_66 ?_
  refine lv_iload_n hx hb dX7_goOn_69 rfl (lv_at hl 2 rfl) ?_
  refine ri_26 F hK hR (by omega) dX7_goOn_70 ?_
  refine lv_eq ((m2_nk (by decide)).trans (h26)) ?_
  refine lv_aload_n hx hb dX7_goOn_71 rfl (lv_at hl 1 rfl) ?_
  refine rg_10 F hK hR dX7_goOn_72 ?_
  refine lv_iload_n hx hb dX7_goOn_75 rfl (lv_at hl 0 rfl) ?_
  refine ri_10 F hK hR (by omega) dX7_goOn_76 ?_
  refine lv_eq (hac) ?_
  refine nv_icmp_ne (by omega) (by omega) hx hb dX7_goOn_77 (tgt := 101) (by decide) (fun c_77 => ?_) (fun c_77 => absurd c_77 (by omega))
  refine lv_bipush (v := nI 40) hx hb dX7_goOn_101 (by decide) ?_
  refine lv_iload_n hx hb dX7_goOn_103 rfl (lv_at hl 0 rfl) ?_
  refine nv_imul hx hb dX7_goOn_104 ?_
  refine lv_iconst (v := nI 4) hx hb dX7_goOn_105 (by decide) ?_
  refine lv_aload_n hx hb dX7_goOn_106 rfl (lv_at hl 1 rfl) ?_
  refine rg_26 F hK hR dX7_goOn_107 ?_
  refine lv_iload_n hx hb dX7_goOn_110 rfl (lv_at hl 2 rfl) ?_
  refine ri_26 F hK hR (by omega) dX7_goOn_111 ?_
  refine lv_eq ((m2_nk (by decide)).trans (h26)) ?_
  refine nv_imul hx hb dX7_goOn_112 ?_
  refine nv_iadd hx hb dX7_goOn_113 ?_
  refine lv_istore_n (lv' := [(3, .int (nI (40 * (4 * x + mm) + 4 * i))), (2, .int (nI (4 * x + mm))), (0, .ref (adr 0)), (1, .int (nI f))]) hx hb dX7_goOn_114 rfl hl (by decide) rfl (fun ls hl => ?_)
  refine lv_aload_n hx hb dX7_goOn_115 rfl (lv_at hl 2 rfl) ?_
  refine rg_27 F hK hR dX7_goOn_116 ?_
  refine lv_iload_n hx hb dX7_goOn_119 rfl (lv_at hl 3 rfl) ?_
  refine ri_27 F hK hR (by omega) dX7_goOn_120 ?_
  refine lv_eq ((m2_nk (by decide)).trans (h27)) ?_
  refine nv_if_ne (by omega) hx hb dX7_goOn_121 (tgt := 210) (by decide) (fun c_121 => absurd c_121 (by omega)) (fun c_121 => ?_)
  refine lv_aload_n hx hb dX7_goOn_124 rfl (lv_at hl 2 rfl) ?_
  refine rg_17 F hK hR dX7_goOn_125 ?_
  refine lv_eq (hwk) ?_
  refine lv_bipush (v := nI 80) hx hb dX7_goOn_128 (by decide) ?_
  refine nv_icmp_ne (by omega) (by omega) hx hb dX7_goOn_130 (tgt := 144) (by decide) (fun c_130 => ?_) (fun c_130 => absurd c_130 (by omega))
  refine lv_aload_n hx hb dX7_goOn_144 rfl (lv_at hl 2 rfl) ?_
  refine lv_dup hx hb dX7_goOn_145 rfl ?_
  refine rg_17 F hK hR dX7_goOn_146 ?_
  refine lv_eq (hwk) ?_
  refine lv_iconst (v := nI 1) hx hb dX7_goOn_149 (by decide) ?_
  refine nv_iadd hx hb dX7_goOn_150 ?_
  refine rp_17 F hK hR dX7_goOn_151 (fun H locs hR => ?_)
  refine lv_aload_n hx hb dX7_goOn_154 rfl (lv_at hl 2 rfl) ?_
  refine lv_aload_n hx hb dX7_goOn_155 rfl (lv_at hl 2 rfl) ?_
  refine rg_11 F hK hR dX7_goOn_156 ?_
  refine lv_iload_n hx hb dX7_goOn_159 rfl (lv_at hl 0 rfl) ?_
  refine ri_11 F hK hR (by omega) dX7_goOn_160 ?_
  refine lv_eq ((m2_nk (by decide)).trans (hso)) ?_
  refine lv_aload_n hx hb dX7_goOn_161 rfl (lv_at hl 2 rfl) ?_
  refine rg_11 F hK hR dX7_goOn_162 ?_
  refine lv_iload_n hx hb dX7_goOn_165 rfl (lv_at hl 0 rfl) ?_
  refine lv_iconst (v := nI 1) hx hb dX7_goOn_166 (by decide) ?_
  refine nv_iadd hx hb dX7_goOn_167 ?_
  refine ri_11 F hK hR (by omega) dX7_goOn_168 ?_
  refine lv_eq ((m2_nk (by decide)).trans (hra)) ?_
  refine lv_aload_n hx hb dX7_goOn_169 rfl (lv_at hl 2 rfl) ?_
  refine rg_11 F hK hR dX7_goOn_170 ?_
  refine lv_iload_n hx hb dX7_goOn_173 rfl (lv_at hl 0 rfl) ?_
  refine lv_iconst (v := nI 2) hx hb dX7_goOn_174 (by decide) ?_
  refine nv_iadd hx hb dX7_goOn_175 ?_
  refine ri_11 F hK hR (by omega) dX7_goOn_176 ?_
  refine lv_eq ((m2_nk (by decide)).trans (hrb)) ?_
  refine lv_aload_n hx hb dX7_goOn_177 rfl (lv_at hl 2 rfl) ?_
  refine rg_11 F hK hR dX7_goOn_178 ?_
  refine lv_iload_n hx hb dX7_goOn_181 rfl (lv_at hl 0 rfl) ?_
  refine lv_iconst (v := nI 3) hx hb dX7_goOn_182 (by decide) ?_
  refine nv_iadd hx hb dX7_goOn_183 ?_
  refine ri_11 F hK hR (by omega) dX7_goOn_184 ?_
  refine lv_eq ((m2_nk (by decide)).trans (hrc)) ?_
  refine gcVi (As := [.int (nI so), .int ra, .int rb, .int rc]) F hK hR hml cv_X7_148 (o := 0) rfl rfl rfl (c_X7_wants l G A adr (m2 S 17 0 (nI (wk + 1))) (m2 X 28 f (nI gp)) so ra rb rc (by omega) hbc) ⟨rfl, rfl⟩ ⟨Nat.le_of_ble_eq_true rfl, Nat.le_of_ble_eq_true rfl⟩ rfl rfl hl.1 (Nat.le_of_ble_eq_true rfl) dX7_goOn_185 ⟨Nat.zero_le _, Nat.zero_le _⟩ (fun H locs hR => ?_)
  refine lv_eq (hwt) ?_
  refine lv_istore (lv' := [(4, .int (-1)), (3, .int (nI (40 * (4 * x + mm) + 4 * i))), (2, .int (nI (4 * x + mm))), (0, .ref (adr 0)), (1, .int (nI f))]) hx hb dX7_goOn_188 hl (by decide) rfl (fun ls hl => ?_)
  refine lv_aload_n hx hb dX7_goOn_190 rfl (lv_at hl 3 rfl) ?_
  refine rg_27 F hK hR dX7_goOn_191 ?_
  refine lv_iload_n hx hb dX7_goOn_194 rfl (lv_at hl 4 rfl) ?_
  refine lv_iconst (v := nI 1) hx hb dX7_goOn_195 (by decide) ?_
  refine rs_27 F hK hR (by omega) dX7_goOn_196 (fun H locs hR => ?_)
  refine lv_iload hx hb dX7_goOn_197 (lv_at hl 0 rfl) ?_
  refine lv_iconst (v := (-1)) hx hb dX7_goOn_199 (by decide) ?_
  refine lv_icmp_eq (tgt := 210) hx hb dX7_goOn_200 (by decide) (fun c_200 => ?_) (fun c_200 => absurd rfl c_200)
  refine lv_aload_n hx hb dX7_goOn_210 rfl (lv_at hl 3 rfl) ?_
  refine rg_27 F hK hR dX7_goOn_211 ?_
  refine lv_iload_n hx hb dX7_goOn_214 rfl (lv_at hl 4 rfl) ?_
  refine lv_iconst (v := nI 0) hx hb dX7_goOn_215 (by decide) ?_
  refine rs_27 F hK hR (by omega) dX7_goOn_216 (fun H locs hR => ?_)
  refine lv_aload_n hx hb dX7_goOn_217 rfl (lv_at hl 3 rfl) ?_
  refine rg_26 F hK hR dX7_goOn_218 ?_
  refine lv_iload_n hx hb dX7_goOn_221 rfl (lv_at hl 4 rfl) ?_
  refine lv_dup2_11 hx hb dX7_goOn_222 rfl rfl ?_
  refine ri_26 F hK hR (by omega) dX7_goOn_223 ?_
  refine lv_eq ((((m2_nk (by decide)).trans (m2_nk (by decide))).trans (m2_nk (by decide))).trans (h26)) ?_
  refine lv_iconst (v := nI 1) hx hb dX7_goOn_224 (by decide) ?_
  refine nv_iadd hx hb dX7_goOn_225 ?_
  refine rs_26 F hK hR (by omega) dX7_goOn_226 (fun H locs hR => ?_)
  refine lv_aload_n hx hb dX7_goOn_227 rfl (lv_at hl 3 rfl) ?_
  refine rg_11 F hK hR dX7_goOn_228 ?_
  refine lv_iload_n hx hb dX7_goOn_231 rfl (lv_at hl 1 rfl) ?_
  refine ri_11 F hK hR (by omega) dX7_goOn_232 ?_
  refine lv_eq ((m2_nk (by decide)).trans (hso)) ?_
  refine lv_bipush (v := nI 11) hx hb dX7_goOn_233 (by decide) ?_
  refine nv_icmp_ne (by omega) (by omega) hx hb dX7_goOn_235 (tgt := 360) (by decide) (fun c_235 => ?_) (fun c_235 => absurd c_235 (by omega))
  refine lv_aload_n hx hb dX7_goOn_360 rfl (lv_at hl 3 rfl) ?_
  refine rg_11 F hK hR dX7_goOn_361 ?_
  refine lv_iload_n hx hb dX7_goOn_364 rfl (lv_at hl 1 rfl) ?_
  refine ri_11 F hK hR (by omega) dX7_goOn_365 ?_
  refine lv_eq ((m2_nk (by decide)).trans (hso)) ?_
  refine lv_bipush (v := nI 7) hx hb dX7_goOn_366 (by decide) ?_
  refine nv_icmp_ne (by omega) (by omega) hx hb dX7_goOn_368 (tgt := 428) (by decide) (fun c_368 => ?_) (fun c_368 => absurd c_368 (by omega))
  refine lv_aload_n hx hb dX7_goOn_428 rfl (lv_at hl 3 rfl) ?_
  refine lv_aload_n hx hb dX7_goOn_429 rfl (lv_at hl 3 rfl) ?_
  refine lv_aload_n hx hb dX7_goOn_430 rfl (lv_at hl 3 rfl) ?_
  refine rg_24 F hK hR dX7_goOn_431 ?_
  refine lv_iload_n hx hb dX7_goOn_434 rfl (lv_at hl 4 rfl) ?_
  refine ri_24 F hK hR (by omega) dX7_goOn_435 ?_
  refine lv_eq (((((m2_nk (by decide)).trans (m2_nk (by decide))).trans (m2_nk (by decide))).trans (m2_nk (by decide))).trans (h24)) ?_
  refine lv_aload_n hx hb dX7_goOn_436 rfl (lv_at hl 3 rfl) ?_
  refine rg_11 F hK hR dX7_goOn_437 ?_
  refine lv_iload_n hx hb dX7_goOn_440 rfl (lv_at hl 1 rfl) ?_
  refine ri_11 F hK hR (by omega) dX7_goOn_441 ?_
  refine lv_eq ((m2_nk (by decide)).trans (hso)) ?_
  refine lv_aload_n hx hb dX7_goOn_442 rfl (lv_at hl 3 rfl) ?_
  refine rg_11 F hK hR dX7_goOn_443 ?_
  refine lv_iload_n hx hb dX7_goOn_446 rfl (lv_at hl 1 rfl) ?_
  refine lv_iconst (v := nI 1) hx hb dX7_goOn_447 (by decide) ?_
  refine nv_iadd hx hb dX7_goOn_448 ?_
  refine ri_11 F hK hR (by omega) dX7_goOn_449 ?_
  refine lv_eq ((m2_nk (by decide)).trans (hra)) ?_
  refine lv_aload_n hx hb dX7_goOn_450 rfl (lv_at hl 3 rfl) ?_
  refine rg_11 F hK hR dX7_goOn_451 ?_
  refine lv_iload_n hx hb dX7_goOn_454 rfl (lv_at hl 1 rfl) ?_
  refine lv_iconst (v := nI 2) hx hb dX7_goOn_455 (by decide) ?_
  refine nv_iadd hx hb dX7_goOn_456 ?_
  refine ri_11 F hK hR (by omega) dX7_goOn_457 ?_
  refine lv_eq ((m2_nk (by decide)).trans (hrb)) ?_
  refine lv_aload_n hx hb dX7_goOn_458 rfl (lv_at hl 3 rfl) ?_
  refine rg_11 F hK hR dX7_goOn_459 ?_
  refine lv_iload_n hx hb dX7_goOn_462 rfl (lv_at hl 1 rfl) ?_
  refine lv_iconst (v := nI 3) hx hb dX7_goOn_463 (by decide) ?_
  refine nv_iadd hx hb dX7_goOn_464 ?_
  refine ri_11 F hK hR (by omega) dX7_goOn_465 ?_
  refine lv_eq ((m2_nk (by decide)).trans (hrc)) ?_
  refine gcVi (As := [.int (nI x), .int (nI so), .int ra, .int rb, .int rc]) F hK hR hml cv_X7_152 (o := 0) rfl rfl rfl (c_X7_doOne l G A adr (m2 S 17 0 (nI (wk + 1))) (m2 (m2 (m2 (m2 X 28 f (nI gp)) 27 f (nI 1)) 27 f (nI 0)) 26 f (nI (i + 1))) ev x so ra rb rc ((m2_nk (by decide)).trans (hev)) (by omega) (by omega) (by omega) h7 h11 hv hb3 (fun q hq => by rw [m2_nk (by decide)]; exact hrow q hq)) ⟨rfl, rfl⟩ ⟨Nat.le_of_ble_eq_true rfl, Nat.le_of_ble_eq_true rfl⟩ rfl rfl hl.1 (Nat.le_of_ble_eq_true rfl) dX7_goOn_466 ⟨Nat.zero_le _, Nat.zero_le _⟩ (fun H locs hR => ?_)
  refine rp_31 F hK hR dX7_goOn_469 (fun H locs hR => ?_)
  exact gr_v F hr hlk hK hR dX7_goOn_472 (rfl)
set_option maxHeartbeats 4000000 in
set_option maxRecDepth 100000 in
theorem c_X7_goOnD1 (l : Launch) (G : gw_G) (A : Nat → Prop) (adr : Nat → Nat) (S X : Nat → Nat → Int32) (f x mm i gc gp : Nat) (ge : Nat → Nat) (ac so : Nat) (ra rb rc : Int32) (ev : Nat) (hff : f < 300) (h24 : X 24 f = nI x) (hxx : x < 12) (h25 : X 25 f = nI mm) (hmm : mm < 4) (h26 : X 26 f = nI i) (hi : i ≤ 10) (h28 : X 28 f = nI gc) (hgc : gc ≤ 10) (hge : ∀ j, j < gc → X 29 (10 * f + j) = nI (ge j) ∧ ge j ≤ 10) (hgp : gp ≤ gc) (hpop : ∀ j, gp ≤ j → j < gc → ge j ≤ i) (htop : gp = 0 ∨ i < ge (gp - 1)) (hac : S 10 (4 * x + mm) = nI ac) (hia : i < ac) (hac10 : ac ≤ 10) (hso : S 11 (40 * (4 * x + mm) + 4 * i) = nI so) (hra : S 11 (40 * (4 * x + mm) + 4 * i + 1) = ra) (hrb : S 11 (40 * (4 * x + mm) + 4 * i + 2) = rb) (hrc : S 11 (40 * (4 * x + mm) + 4 * i + 3) = rc) (hso12 : so ≤ 12) (h27 : X 27 f = nI 1) (hev : S 13 0 = nI ev) (he : ev ≤ 60) (h7 : so ≠ 7) (h11 : so ≠ 11) (hv : ¬ sp_areIn so ra rb rc = 0) (hb3 : 1 ≤ so → so ≤ 3 → ∃ z, z < 12 ∧ rb = nI z) (hrow : ∀ x, x < 12 → ∃ r, r ≤ 21 ∧ S 8 x = nI r) : gm l yX7_goOn cX7_goOn 6 none (rmL 4) 0 0 A [.ref (adr 0), .int (nI f)] (gW G A adr (rcel G adr S X)) (gW G A adr (rcel G adr (sp_doS S ev x so ra rb rc) (m2 (m2 (m2 (m2 X 28 f (nI gp)) 27 f (nI 0)) 26 f (nI (i + 1))) 31 0 (sp_doR S x so ra rb rc)))) none := by
  refine gm_of (own := RX7) (by decide) rfl (Nat.le_of_ble_eq_true rfl) ?_
  intro p e s m below meth c ls F hml hr hlk hnm hK hR hl
  have hx := F.1
  have hb := F.2.1
  have hl : lv_has ls 6 [(0, .ref (adr 0)), (1, .int (nI f))] := hl
  refine goOn_head f x mm i gc gp ge F hR hK hl hff h24 hxx h25 hmm h26 hi h28 hgc hge hgp hpop htop (fun H locs ls hR hl => ?_)
  refine lv_aload_n hx hb dX7_goOn_65 rfl (lv_at hl 1 rfl) ?_
  refine rg_26 F hK hR dX7_goOn_66 ?_
  refine lv_iload_n hx hb dX7_goOn_69 rfl (lv_at hl 2 rfl) ?_
  refine ri_26 F hK hR (by omega) dX7_goOn_70 ?_
  refine lv_eq ((m2_nk (by decide)).trans (h26)) ?_
  refine lv_aload_n hx hb dX7_goOn_71 rfl (lv_at hl 1 rfl) ?_
  refine rg_10 F hK hR dX7_goOn_72 ?_
  refine lv_iload_n hx hb dX7_goOn_75 rfl (lv_at hl 0 rfl) ?_
  refine ri_10 F hK hR (by omega) dX7_goOn_76 ?_
  refine lv_eq (hac) ?_
  refine nv_icmp_ne (by omega) (by omega) hx hb dX7_goOn_77 (tgt := 101) (by decide) (fun c_77 => ?_) (fun c_77 => absurd c_77 (by omega))
  refine lv_bipush (v := nI 40) hx hb dX7_goOn_101 (by decide) ?_
  refine lv_iload_n hx hb dX7_goOn_103 rfl (lv_at hl 0 rfl) ?_
  refine nv_imul hx hb dX7_goOn_104 ?_
  refine lv_iconst (v := nI 4) hx hb dX7_goOn_105 (by decide) ?_
  refine lv_aload_n hx hb dX7_goOn_106 rfl (lv_at hl 1 rfl) ?_
  refine rg_26 F hK hR dX7_goOn_107 ?_
  refine lv_iload_n hx hb dX7_goOn_110 rfl (lv_at hl 2 rfl) ?_
  refine ri_26 F hK hR (by omega) dX7_goOn_111 ?_
  refine lv_eq ((m2_nk (by decide)).trans (h26)) ?_
  refine nv_imul hx hb dX7_goOn_112 ?_
  refine nv_iadd hx hb dX7_goOn_113 ?_
  refine lv_istore_n (lv' := [(3, .int (nI (40 * (4 * x + mm) + 4 * i))), (2, .int (nI (4 * x + mm))), (0, .ref (adr 0)), (1, .int (nI f))]) hx hb dX7_goOn_114 rfl hl (by decide) rfl (fun ls hl => ?_)
  refine lv_aload_n hx hb dX7_goOn_115 rfl (lv_at hl 2 rfl) ?_
  refine rg_27 F hK hR dX7_goOn_116 ?_
  refine lv_iload_n hx hb dX7_goOn_119 rfl (lv_at hl 3 rfl) ?_
  refine ri_27 F hK hR (by omega) dX7_goOn_120 ?_
  refine lv_eq ((m2_nk (by decide)).trans (h27)) ?_
  refine nv_if_ne (by omega) hx hb dX7_goOn_121 (tgt := 210) (by decide) (fun c_121 => ?_) (fun c_121 => absurd c_121 (by omega))
  refine lv_aload_n hx hb dX7_goOn_210 rfl (lv_at hl 2 rfl) ?_
  refine rg_27 F hK hR dX7_goOn_211 ?_
  refine lv_iload_n hx hb dX7_goOn_214 rfl (lv_at hl 3 rfl) ?_
  refine lv_iconst (v := nI 0) hx hb dX7_goOn_215 (by decide) ?_
  refine rs_27 F hK hR (by omega) dX7_goOn_216 (fun H locs hR => ?_)
  refine lv_aload_n hx hb dX7_goOn_217 rfl (lv_at hl 2 rfl) ?_
  refine rg_26 F hK hR dX7_goOn_218 ?_
  refine lv_iload_n hx hb dX7_goOn_221 rfl (lv_at hl 3 rfl) ?_
  refine lv_dup2_11 hx hb dX7_goOn_222 rfl rfl ?_
  refine ri_26 F hK hR (by omega) dX7_goOn_223 ?_
  refine lv_eq (((m2_nk (by decide)).trans (m2_nk (by decide))).trans (h26)) ?_
  refine lv_iconst (v := nI 1) hx hb dX7_goOn_224 (by decide) ?_
  refine nv_iadd hx hb dX7_goOn_225 ?_
  refine rs_26 F hK hR (by omega) dX7_goOn_226 (fun H locs hR => ?_)
  refine lv_aload_n hx hb dX7_goOn_227 rfl (lv_at hl 2 rfl) ?_
  refine rg_11 F hK hR dX7_goOn_228 ?_
  refine lv_iload_n hx hb dX7_goOn_231 rfl (lv_at hl 0 rfl) ?_
  refine ri_11 F hK hR (by omega) dX7_goOn_232 ?_
  refine lv_eq (hso) ?_
  refine lv_bipush (v := nI 11) hx hb dX7_goOn_233 (by decide) ?_
  refine nv_icmp_ne (by omega) (by omega) hx hb dX7_goOn_235 (tgt := 360) (by decide) (fun c_235 => ?_) (fun c_235 => absurd c_235 (by omega))
  refine lv_aload_n hx hb dX7_goOn_360 rfl (lv_at hl 2 rfl) ?_
  refine rg_11 F hK hR dX7_goOn_361 ?_
  refine lv_iload_n hx hb dX7_goOn_364 rfl (lv_at hl 0 rfl) ?_
  refine ri_11 F hK hR (by omega) dX7_goOn_365 ?_
  refine lv_eq (hso) ?_
  refine lv_bipush (v := nI 7) hx hb dX7_goOn_366 (by decide) ?_
  refine nv_icmp_ne (by omega) (by omega) hx hb dX7_goOn_368 (tgt := 428) (by decide) (fun c_368 => ?_) (fun c_368 => absurd c_368 (by omega))
  refine lv_aload_n hx hb dX7_goOn_428 rfl (lv_at hl 2 rfl) ?_
  refine lv_aload_n hx hb dX7_goOn_429 rfl (lv_at hl 2 rfl) ?_
  refine lv_aload_n hx hb dX7_goOn_430 rfl (lv_at hl 2 rfl) ?_
  refine rg_24 F hK hR dX7_goOn_431 ?_
  refine lv_iload_n hx hb dX7_goOn_434 rfl (lv_at hl 3 rfl) ?_
  refine ri_24 F hK hR (by omega) dX7_goOn_435 ?_
  refine lv_eq ((((m2_nk (by decide)).trans (m2_nk (by decide))).trans (m2_nk (by decide))).trans (h24)) ?_
  refine lv_aload_n hx hb dX7_goOn_436 rfl (lv_at hl 2 rfl) ?_
  refine rg_11 F hK hR dX7_goOn_437 ?_
  refine lv_iload_n hx hb dX7_goOn_440 rfl (lv_at hl 0 rfl) ?_
  refine ri_11 F hK hR (by omega) dX7_goOn_441 ?_
  refine lv_eq (hso) ?_
  refine lv_aload_n hx hb dX7_goOn_442 rfl (lv_at hl 2 rfl) ?_
  refine rg_11 F hK hR dX7_goOn_443 ?_
  refine lv_iload_n hx hb dX7_goOn_446 rfl (lv_at hl 0 rfl) ?_
  refine lv_iconst (v := nI 1) hx hb dX7_goOn_447 (by decide) ?_
  refine nv_iadd hx hb dX7_goOn_448 ?_
  refine ri_11 F hK hR (by omega) dX7_goOn_449 ?_
  refine lv_eq (hra) ?_
  refine lv_aload_n hx hb dX7_goOn_450 rfl (lv_at hl 2 rfl) ?_
  refine rg_11 F hK hR dX7_goOn_451 ?_
  refine lv_iload_n hx hb dX7_goOn_454 rfl (lv_at hl 0 rfl) ?_
  refine lv_iconst (v := nI 2) hx hb dX7_goOn_455 (by decide) ?_
  refine nv_iadd hx hb dX7_goOn_456 ?_
  refine ri_11 F hK hR (by omega) dX7_goOn_457 ?_
  refine lv_eq (hrb) ?_
  refine lv_aload_n hx hb dX7_goOn_458 rfl (lv_at hl 2 rfl) ?_
  refine rg_11 F hK hR dX7_goOn_459 ?_
  refine lv_iload_n hx hb dX7_goOn_462 rfl (lv_at hl 0 rfl) ?_
  refine lv_iconst (v := nI 3) hx hb dX7_goOn_463 (by decide) ?_
  refine nv_iadd hx hb dX7_goOn_464 ?_
  refine ri_11 F hK hR (by omega) dX7_goOn_465 ?_
  refine lv_eq (hrc) ?_
  refine gcVi (As := [.int (nI x), .int (nI so), .int ra, .int rb, .int rc]) F hK hR hml cv_X7_152 (o := 0) rfl rfl rfl (c_X7_doOne l G A adr S (m2 (m2 (m2 X 28 f (nI gp)) 27 f (nI 0)) 26 f (nI (i + 1))) ev x so ra rb rc (hev) (by omega) (by omega) (by omega) h7 h11 hv hb3 hrow) ⟨rfl, rfl⟩ ⟨Nat.le_of_ble_eq_true rfl, Nat.le_of_ble_eq_true rfl⟩ rfl rfl hl.1 (Nat.le_of_ble_eq_true rfl) dX7_goOn_466 ⟨Nat.zero_le _, Nat.zero_le _⟩ (fun H locs hR => ?_)
  refine rp_31 F hK hR dX7_goOn_469 (fun H locs hR => ?_)
  exact gr_v F hr hlk hK hR dX7_goOn_472 (rfl)
set_option maxHeartbeats 4000000 in
set_option maxRecDepth 100000 in
theorem c_X7_goOnC (l : Launch) (G : gw_G) (A : Nat → Prop) (adr : Nat → Nat) (S X : Nat → Nat → Int32) (f x mm i gc gp : Nat) (ge : Nat → Nat) (ac z g ev wi : Nat) (hff : f < 300) (h24 : X 24 f = nI x) (hxx : x < 12) (h25 : X 25 f = nI mm) (hmm : mm < 4) (h26 : X 26 f = nI i) (hi : i ≤ 10) (h28 : X 28 f = nI gc) (hgc : gc ≤ 10) (hge : ∀ j, j < gc → X 29 (10 * f + j) = nI (ge j) ∧ ge j ≤ 10) (hgp : gp ≤ gc) (hpop : ∀ j, gp ≤ j → j < gc → ge j ≤ i) (htop : gp = 0 ∨ i < ge (gp - 1)) (hac : S 10 (4 * x + mm) = nI ac) (hia : i < ac) (hac10 : ac ≤ 10) (hso : S 11 (40 * (4 * x + mm) + 4 * i) = nI 7) (hra : S 11 (40 * (4 * x + mm) + 4 * i + 1) = nI z) (hrb : S 11 (40 * (4 * x + mm) + 4 * i + 2) = nI g) (hz : z < 12) (hg : g < 4) (h27 : X 27 f = nI 1) (hev : S 13 0 = nI ev) (he : ev ≤ 60) (hf0 : X 22 0 = nI (f + 1)) (hf1 : f + 1 < 300) (hwi : X 21 0 = nI wi) (hwi8 : wi ≤ 8) (hw : wi < 8) : gm l yX7_goOn cX7_goOn 6 none (rmL 4) 0 0 A [.ref (adr 0), .int (nI f)] (gW G A adr (rcel G adr S X)) (gW G A adr (rcel G adr (rf_entS (sp_tell S ev (nI 4) (nI (10 * z + g))) wi) (rf_entX (m2 (m2 (m2 X 28 f (nI gp)) 27 f (nI 0)) 26 f (nI (i + 1))) wi (f + 1) (nI z) (nI g)))) none := by
  refine gm_of (own := RX7) (by decide) rfl (Nat.le_of_ble_eq_true rfl) ?_
  intro p e s m below meth c ls F hml hr hlk hnm hK hR hl
  have hx := F.1
  have hb := F.2.1
  have hl : lv_has ls 6 [(0, .ref (adr 0)), (1, .int (nI f))] := hl
  refine goOn_head f x mm i gc gp ge F hR hK hl hff h24 hxx h25 hmm h26 hi h28 hgc hge hgp hpop htop (fun H locs ls hR hl => ?_)
  refine lv_aload_n hx hb dX7_goOn_65 rfl (lv_at hl 1 rfl) ?_
  refine rg_26 F hK hR dX7_goOn_66 ?_
  refine lv_iload_n hx hb dX7_goOn_69 rfl (lv_at hl 2 rfl) ?_
  refine ri_26 F hK hR (by omega) dX7_goOn_70 ?_
  refine lv_eq ((m2_nk (by decide)).trans (h26)) ?_
  refine lv_aload_n hx hb dX7_goOn_71 rfl (lv_at hl 1 rfl) ?_
  refine rg_10 F hK hR dX7_goOn_72 ?_
  refine lv_iload_n hx hb dX7_goOn_75 rfl (lv_at hl 0 rfl) ?_
  refine ri_10 F hK hR (by omega) dX7_goOn_76 ?_
  refine lv_eq (hac) ?_
  refine nv_icmp_ne (by omega) (by omega) hx hb dX7_goOn_77 (tgt := 101) (by decide) (fun c_77 => ?_) (fun c_77 => absurd c_77 (by omega))
  refine lv_bipush (v := nI 40) hx hb dX7_goOn_101 (by decide) ?_
  refine lv_iload_n hx hb dX7_goOn_103 rfl (lv_at hl 0 rfl) ?_
  refine nv_imul hx hb dX7_goOn_104 ?_
  refine lv_iconst (v := nI 4) hx hb dX7_goOn_105 (by decide) ?_
  refine lv_aload_n hx hb dX7_goOn_106 rfl (lv_at hl 1 rfl) ?_
  refine rg_26 F hK hR dX7_goOn_107 ?_
  refine lv_iload_n hx hb dX7_goOn_110 rfl (lv_at hl 2 rfl) ?_
  refine ri_26 F hK hR (by omega) dX7_goOn_111 ?_
  refine lv_eq ((m2_nk (by decide)).trans (h26)) ?_
  refine nv_imul hx hb dX7_goOn_112 ?_
  refine nv_iadd hx hb dX7_goOn_113 ?_
  refine lv_istore_n (lv' := [(3, .int (nI (40 * (4 * x + mm) + 4 * i))), (2, .int (nI (4 * x + mm))), (0, .ref (adr 0)), (1, .int (nI f))]) hx hb dX7_goOn_114 rfl hl (by decide) rfl (fun ls hl => ?_)
  refine lv_aload_n hx hb dX7_goOn_115 rfl (lv_at hl 2 rfl) ?_
  refine rg_27 F hK hR dX7_goOn_116 ?_
  refine lv_iload_n hx hb dX7_goOn_119 rfl (lv_at hl 3 rfl) ?_
  refine ri_27 F hK hR (by omega) dX7_goOn_120 ?_
  refine lv_eq ((m2_nk (by decide)).trans (h27)) ?_
  refine nv_if_ne (by omega) hx hb dX7_goOn_121 (tgt := 210) (by decide) (fun c_121 => ?_) (fun c_121 => absurd c_121 (by omega))
  refine lv_aload_n hx hb dX7_goOn_210 rfl (lv_at hl 2 rfl) ?_
  refine rg_27 F hK hR dX7_goOn_211 ?_
  refine lv_iload_n hx hb dX7_goOn_214 rfl (lv_at hl 3 rfl) ?_
  refine lv_iconst (v := nI 0) hx hb dX7_goOn_215 (by decide) ?_
  refine rs_27 F hK hR (by omega) dX7_goOn_216 (fun H locs hR => ?_)
  refine lv_aload_n hx hb dX7_goOn_217 rfl (lv_at hl 2 rfl) ?_
  refine rg_26 F hK hR dX7_goOn_218 ?_
  refine lv_iload_n hx hb dX7_goOn_221 rfl (lv_at hl 3 rfl) ?_
  refine lv_dup2_11 hx hb dX7_goOn_222 rfl rfl ?_
  refine ri_26 F hK hR (by omega) dX7_goOn_223 ?_
  refine lv_eq (((m2_nk (by decide)).trans (m2_nk (by decide))).trans (h26)) ?_
  refine lv_iconst (v := nI 1) hx hb dX7_goOn_224 (by decide) ?_
  refine nv_iadd hx hb dX7_goOn_225 ?_
  refine rs_26 F hK hR (by omega) dX7_goOn_226 (fun H locs hR => ?_)
  refine lv_aload_n hx hb dX7_goOn_227 rfl (lv_at hl 2 rfl) ?_
  refine rg_11 F hK hR dX7_goOn_228 ?_
  refine lv_iload_n hx hb dX7_goOn_231 rfl (lv_at hl 0 rfl) ?_
  refine ri_11 F hK hR (by omega) dX7_goOn_232 ?_
  refine lv_eq (hso) ?_
  refine lv_bipush (v := nI 11) hx hb dX7_goOn_233 (by decide) ?_
  refine nv_icmp_ne (by omega) (by omega) hx hb dX7_goOn_235 (tgt := 360) (by decide) (fun c_235 => ?_) (fun c_235 => absurd c_235 (by omega))
  refine lv_aload_n hx hb dX7_goOn_360 rfl (lv_at hl 2 rfl) ?_
  refine rg_11 F hK hR dX7_goOn_361 ?_
  refine lv_iload_n hx hb dX7_goOn_364 rfl (lv_at hl 0 rfl) ?_
  refine ri_11 F hK hR (by omega) dX7_goOn_365 ?_
  refine lv_eq (hso) ?_
  refine lv_bipush (v := nI 7) hx hb dX7_goOn_366 (by decide) ?_
  refine nv_icmp_ne (by omega) (by omega) hx hb dX7_goOn_368 (tgt := 428) (by decide) (fun c_368 => absurd c_368 (by omega)) (fun c_368 => ?_)
  refine lv_aload_n hx hb dX7_goOn_371 rfl (lv_at hl 2 rfl) ?_
  refine rg_21 F hK hR dX7_goOn_372 ?_
  refine lv_eq ((((m2_nk (by decide)).trans (m2_nk (by decide))).trans (m2_nk (by decide))).trans (hwi)) ?_
  refine lv_bipush (v := nI 8) hx hb dX7_goOn_375 (by decide) ?_
  refine nv_icmp_ge (by omega) (by omega) hx hb dX7_goOn_377 (tgt := 405) (by decide) (fun c_377 => absurd c_377 (by omega)) (fun c_377 => ?_)
  refine lv_aload_n hx hb dX7_goOn_380 rfl (lv_at hl 2 rfl) ?_
  refine lv_iconst (v := nI 4) hx hb dX7_goOn_381 (by decide) ?_
  refine lv_bipush (v := nI 10) hx hb dX7_goOn_382 (by decide) ?_
  refine lv_aload_n hx hb dX7_goOn_384 rfl (lv_at hl 2 rfl) ?_
  refine rg_11 F hK hR dX7_goOn_385 ?_
  refine lv_iload_n hx hb dX7_goOn_388 rfl (lv_at hl 0 rfl) ?_
  refine lv_iconst (v := nI 1) hx hb dX7_goOn_389 (by decide) ?_
  refine nv_iadd hx hb dX7_goOn_390 ?_
  refine ri_11 F hK hR (by omega) dX7_goOn_391 ?_
  refine lv_eq (hra) ?_
  refine nv_imul hx hb dX7_goOn_392 ?_
  refine lv_aload_n hx hb dX7_goOn_393 rfl (lv_at hl 2 rfl) ?_
  refine rg_11 F hK hR dX7_goOn_394 ?_
  refine lv_iload_n hx hb dX7_goOn_397 rfl (lv_at hl 0 rfl) ?_
  refine lv_iconst (v := nI 2) hx hb dX7_goOn_398 (by decide) ?_
  refine nv_iadd hx hb dX7_goOn_399 ?_
  refine ri_11 F hK hR (by omega) dX7_goOn_400 ?_
  refine lv_eq (hrb) ?_
  refine nv_iadd hx hb dX7_goOn_401 ?_
  refine gcVv (As := [.int (nI 4), .int (nI (10 * z + g))]) F hK hR hml cv_X7_118 (o := 0) rfl rfl rfl (c_X7_tell l G A adr S (m2 (m2 (m2 X 28 f (nI gp)) 27 f (nI 0)) 26 f (nI (i + 1))) ev (nI 4) (nI (10 * z + g)) (hev) (by omega)) ⟨rfl, rfl⟩ ⟨Nat.le_of_ble_eq_true rfl, Nat.le_of_ble_eq_true rfl⟩ rfl rfl hl.1 (Nat.le_of_ble_eq_true rfl) dX7_goOn_402 ⟨Nat.zero_le _, Nat.zero_le _⟩ (fun H locs hR => ?_)
  refine lv_aload_n hx hb dX7_goOn_405 rfl (lv_at hl 2 rfl) ?_
  refine lv_aload_n hx hb dX7_goOn_406 rfl (lv_at hl 2 rfl) ?_
  refine rg_11 F hK hR dX7_goOn_407 ?_
  refine lv_iload_n hx hb dX7_goOn_410 rfl (lv_at hl 0 rfl) ?_
  refine lv_iconst (v := nI 1) hx hb dX7_goOn_411 (by decide) ?_
  refine nv_iadd hx hb dX7_goOn_412 ?_
  refine ri_11 F hK hR (by omega) dX7_goOn_413 ?_
  refine lv_eq ((congrFun (sp_tell_ne (by decide) (by decide) (by decide)) _).trans hra) ?_
  refine lv_aload_n hx hb dX7_goOn_414 rfl (lv_at hl 2 rfl) ?_
  refine rg_11 F hK hR dX7_goOn_415 ?_
  refine lv_iload_n hx hb dX7_goOn_418 rfl (lv_at hl 0 rfl) ?_
  refine lv_iconst (v := nI 2) hx hb dX7_goOn_419 (by decide) ?_
  refine nv_iadd hx hb dX7_goOn_420 ?_
  refine ri_11 F hK hR (by omega) dX7_goOn_421 ?_
  refine lv_eq ((congrFun (sp_tell_ne (by decide) (by decide) (by decide)) _).trans hrb) ?_
  refine gcVv (As := [.int (nI z), .int (nI g)]) F hK hR hml cv_X7_136 (o := 0) rfl rfl rfl (c_X7_enter l G A adr (sp_tell S ev (nI 4) (nI (10 * z + g))) (m2 (m2 (m2 X 28 f (nI gp)) 27 f (nI 0)) 26 f (nI (i + 1))) wi (f + 1) (nI z) (nI g) ((((m2_nk (by decide)).trans (m2_nk (by decide))).trans (m2_nk (by decide))).trans (hwi)) (by omega) ((((m2_nk (by decide)).trans (m2_nk (by decide))).trans (m2_nk (by decide))).trans (hf0)) (by omega)) ⟨rfl, rfl⟩ ⟨Nat.le_of_ble_eq_true rfl, Nat.le_of_ble_eq_true rfl⟩ rfl rfl hl.1 (Nat.le_of_ble_eq_true rfl) dX7_goOn_422 ⟨Nat.zero_le _, Nat.zero_le _⟩ (fun H locs hR => ?_)
  refine lv_goto (tgt := 472) hx hb dX7_goOn_425 (by decide) ?_
  exact gr_v F hr hlk hK hR dX7_goOn_472 (rfl)
set_option maxHeartbeats 4000000 in
set_option maxRecDepth 100000 in
theorem c_X7_goOnO (l : Launch) (G : gw_G) (A : Nat → Prop) (adr : Nat → Nat) (S X : Nat → Nat → Int32) (f x mm i gc gp : Nat) (ge : Nat → Nat) (ac z g ev wi : Nat) (hff : f < 300) (h24 : X 24 f = nI x) (hxx : x < 12) (h25 : X 25 f = nI mm) (hmm : mm < 4) (h26 : X 26 f = nI i) (hi : i ≤ 10) (h28 : X 28 f = nI gc) (hgc : gc ≤ 10) (hge : ∀ j, j < gc → X 29 (10 * f + j) = nI (ge j) ∧ ge j ≤ 10) (hgp : gp ≤ gc) (hpop : ∀ j, gp ≤ j → j < gc → ge j ≤ i) (htop : gp = 0 ∨ i < ge (gp - 1)) (hac : S 10 (4 * x + mm) = nI ac) (hia : i < ac) (hac10 : ac ≤ 10) (hso : S 11 (40 * (4 * x + mm) + 4 * i) = nI 7) (hra : S 11 (40 * (4 * x + mm) + 4 * i + 1) = nI z) (hrb : S 11 (40 * (4 * x + mm) + 4 * i + 2) = nI g) (hz : z < 12) (hg : g < 4) (h27 : X 27 f = nI 1) (hev : S 13 0 = nI ev) (he : ev ≤ 60) (hf0 : X 22 0 = nI (f + 1)) (hf1 : f + 1 < 300) (hwi : X 21 0 = nI wi) (hwi8 : wi ≤ 8) (hw : ¬ wi < 8) : gm l yX7_goOn cX7_goOn 6 none (rmL 4) 0 0 A [.ref (adr 0), .int (nI f)] (gW G A adr (rcel G adr S X)) (gW G A adr (rcel G adr (rf_entS S wi) (rf_entX (m2 (m2 (m2 X 28 f (nI gp)) 27 f (nI 0)) 26 f (nI (i + 1))) wi (f + 1) (nI z) (nI g)))) none := by
  refine gm_of (own := RX7) (by decide) rfl (Nat.le_of_ble_eq_true rfl) ?_
  intro p e s m below meth c ls F hml hr hlk hnm hK hR hl
  have hx := F.1
  have hb := F.2.1
  have hl : lv_has ls 6 [(0, .ref (adr 0)), (1, .int (nI f))] := hl
  refine goOn_head f x mm i gc gp ge F hR hK hl hff h24 hxx h25 hmm h26 hi h28 hgc hge hgp hpop htop (fun H locs ls hR hl => ?_)
  refine lv_aload_n hx hb dX7_goOn_65 rfl (lv_at hl 1 rfl) ?_
  refine rg_26 F hK hR dX7_goOn_66 ?_
  refine lv_iload_n hx hb dX7_goOn_69 rfl (lv_at hl 2 rfl) ?_
  refine ri_26 F hK hR (by omega) dX7_goOn_70 ?_
  refine lv_eq ((m2_nk (by decide)).trans (h26)) ?_
  refine lv_aload_n hx hb dX7_goOn_71 rfl (lv_at hl 1 rfl) ?_
  refine rg_10 F hK hR dX7_goOn_72 ?_
  refine lv_iload_n hx hb dX7_goOn_75 rfl (lv_at hl 0 rfl) ?_
  refine ri_10 F hK hR (by omega) dX7_goOn_76 ?_
  refine lv_eq (hac) ?_
  refine nv_icmp_ne (by omega) (by omega) hx hb dX7_goOn_77 (tgt := 101) (by decide) (fun c_77 => ?_) (fun c_77 => absurd c_77 (by omega))
  refine lv_bipush (v := nI 40) hx hb dX7_goOn_101 (by decide) ?_
  refine lv_iload_n hx hb dX7_goOn_103 rfl (lv_at hl 0 rfl) ?_
  refine nv_imul hx hb dX7_goOn_104 ?_
  refine lv_iconst (v := nI 4) hx hb dX7_goOn_105 (by decide) ?_
  refine lv_aload_n hx hb dX7_goOn_106 rfl (lv_at hl 1 rfl) ?_
  refine rg_26 F hK hR dX7_goOn_107 ?_
  refine lv_iload_n hx hb dX7_goOn_110 rfl (lv_at hl 2 rfl) ?_
  refine ri_26 F hK hR (by omega) dX7_goOn_111 ?_
  refine lv_eq ((m2_nk (by decide)).trans (h26)) ?_
  refine nv_imul hx hb dX7_goOn_112 ?_
  refine nv_iadd hx hb dX7_goOn_113 ?_
  refine lv_istore_n (lv' := [(3, .int (nI (40 * (4 * x + mm) + 4 * i))), (2, .int (nI (4 * x + mm))), (0, .ref (adr 0)), (1, .int (nI f))]) hx hb dX7_goOn_114 rfl hl (by decide) rfl (fun ls hl => ?_)
  refine lv_aload_n hx hb dX7_goOn_115 rfl (lv_at hl 2 rfl) ?_
  refine rg_27 F hK hR dX7_goOn_116 ?_
  refine lv_iload_n hx hb dX7_goOn_119 rfl (lv_at hl 3 rfl) ?_
  refine ri_27 F hK hR (by omega) dX7_goOn_120 ?_
  refine lv_eq ((m2_nk (by decide)).trans (h27)) ?_
  refine nv_if_ne (by omega) hx hb dX7_goOn_121 (tgt := 210) (by decide) (fun c_121 => ?_) (fun c_121 => absurd c_121 (by omega))
  refine lv_aload_n hx hb dX7_goOn_210 rfl (lv_at hl 2 rfl) ?_
  refine rg_27 F hK hR dX7_goOn_211 ?_
  refine lv_iload_n hx hb dX7_goOn_214 rfl (lv_at hl 3 rfl) ?_
  refine lv_iconst (v := nI 0) hx hb dX7_goOn_215 (by decide) ?_
  refine rs_27 F hK hR (by omega) dX7_goOn_216 (fun H locs hR => ?_)
  refine lv_aload_n hx hb dX7_goOn_217 rfl (lv_at hl 2 rfl) ?_
  refine rg_26 F hK hR dX7_goOn_218 ?_
  refine lv_iload_n hx hb dX7_goOn_221 rfl (lv_at hl 3 rfl) ?_
  refine lv_dup2_11 hx hb dX7_goOn_222 rfl rfl ?_
  refine ri_26 F hK hR (by omega) dX7_goOn_223 ?_
  refine lv_eq (((m2_nk (by decide)).trans (m2_nk (by decide))).trans (h26)) ?_
  refine lv_iconst (v := nI 1) hx hb dX7_goOn_224 (by decide) ?_
  refine nv_iadd hx hb dX7_goOn_225 ?_
  refine rs_26 F hK hR (by omega) dX7_goOn_226 (fun H locs hR => ?_)
  refine lv_aload_n hx hb dX7_goOn_227 rfl (lv_at hl 2 rfl) ?_
  refine rg_11 F hK hR dX7_goOn_228 ?_
  refine lv_iload_n hx hb dX7_goOn_231 rfl (lv_at hl 0 rfl) ?_
  refine ri_11 F hK hR (by omega) dX7_goOn_232 ?_
  refine lv_eq (hso) ?_
  refine lv_bipush (v := nI 11) hx hb dX7_goOn_233 (by decide) ?_
  refine nv_icmp_ne (by omega) (by omega) hx hb dX7_goOn_235 (tgt := 360) (by decide) (fun c_235 => ?_) (fun c_235 => absurd c_235 (by omega))
  refine lv_aload_n hx hb dX7_goOn_360 rfl (lv_at hl 2 rfl) ?_
  refine rg_11 F hK hR dX7_goOn_361 ?_
  refine lv_iload_n hx hb dX7_goOn_364 rfl (lv_at hl 0 rfl) ?_
  refine ri_11 F hK hR (by omega) dX7_goOn_365 ?_
  refine lv_eq (hso) ?_
  refine lv_bipush (v := nI 7) hx hb dX7_goOn_366 (by decide) ?_
  refine nv_icmp_ne (by omega) (by omega) hx hb dX7_goOn_368 (tgt := 428) (by decide) (fun c_368 => absurd c_368 (by omega)) (fun c_368 => ?_)
  refine lv_aload_n hx hb dX7_goOn_371 rfl (lv_at hl 2 rfl) ?_
  refine rg_21 F hK hR dX7_goOn_372 ?_
  refine lv_eq ((((m2_nk (by decide)).trans (m2_nk (by decide))).trans (m2_nk (by decide))).trans (hwi)) ?_
  refine lv_bipush (v := nI 8) hx hb dX7_goOn_375 (by decide) ?_
  refine nv_icmp_ge (by omega) (by omega) hx hb dX7_goOn_377 (tgt := 405) (by decide) (fun c_377 => ?_) (fun c_377 => absurd c_377 (by omega))
  refine lv_aload_n hx hb dX7_goOn_405 rfl (lv_at hl 2 rfl) ?_
  refine lv_aload_n hx hb dX7_goOn_406 rfl (lv_at hl 2 rfl) ?_
  refine rg_11 F hK hR dX7_goOn_407 ?_
  refine lv_iload_n hx hb dX7_goOn_410 rfl (lv_at hl 0 rfl) ?_
  refine lv_iconst (v := nI 1) hx hb dX7_goOn_411 (by decide) ?_
  refine nv_iadd hx hb dX7_goOn_412 ?_
  refine ri_11 F hK hR (by omega) dX7_goOn_413 ?_
  refine lv_eq (hra) ?_
  refine lv_aload_n hx hb dX7_goOn_414 rfl (lv_at hl 2 rfl) ?_
  refine rg_11 F hK hR dX7_goOn_415 ?_
  refine lv_iload_n hx hb dX7_goOn_418 rfl (lv_at hl 0 rfl) ?_
  refine lv_iconst (v := nI 2) hx hb dX7_goOn_419 (by decide) ?_
  refine nv_iadd hx hb dX7_goOn_420 ?_
  refine ri_11 F hK hR (by omega) dX7_goOn_421 ?_
  refine lv_eq (hrb) ?_
  refine gcVv (As := [.int (nI z), .int (nI g)]) F hK hR hml cv_X7_136 (o := 0) rfl rfl rfl (c_X7_enter l G A adr S (m2 (m2 (m2 X 28 f (nI gp)) 27 f (nI 0)) 26 f (nI (i + 1))) wi (f + 1) (nI z) (nI g) ((((m2_nk (by decide)).trans (m2_nk (by decide))).trans (m2_nk (by decide))).trans (hwi)) (by omega) ((((m2_nk (by decide)).trans (m2_nk (by decide))).trans (m2_nk (by decide))).trans (hf0)) (by omega)) ⟨rfl, rfl⟩ ⟨Nat.le_of_ble_eq_true rfl, Nat.le_of_ble_eq_true rfl⟩ rfl rfl hl.1 (Nat.le_of_ble_eq_true rfl) dX7_goOn_422 ⟨Nat.zero_le _, Nat.zero_le _⟩ (fun H locs hR => ?_)
  refine lv_goto (tgt := 472) hx hb dX7_goOn_425 (by decide) ?_
  exact gr_v F hr hlk hK hR dX7_goOn_472 (rfl)
set_option maxHeartbeats 4000000 in
set_option maxRecDepth 100000 in
theorem c_X7_goOnT0 (l : Launch) (G : gw_G) (A : Nat → Prop) (adr : Nat → Nat) (S X : Nat → Nat → Int32) (f x mm i gc gp : Nat) (ge : Nat → Nat) (ac ta wk : Nat) (rb rc : Int32) (hff : f < 300) (h24 : X 24 f = nI x) (hxx : x < 12) (h25 : X 25 f = nI mm) (hmm : mm < 4) (h26 : X 26 f = nI i) (hi : i ≤ 10) (h28 : X 28 f = nI gc) (hgc : gc ≤ 10) (hge : ∀ j, j < gc → X 29 (10 * f + j) = nI (ge j) ∧ ge j ≤ 10) (hgp : gp ≤ gc) (hpop : ∀ j, gp ≤ j → j < gc → ge j ≤ i) (htop : gp = 0 ∨ i < ge (gp - 1)) (hac : S 10 (4 * x + mm) = nI ac) (hia : i < ac) (hac10 : ac ≤ 10) (hso : S 11 (40 * (4 * x + mm) + 4 * i) = nI 11) (hra : S 11 (40 * (4 * x + mm) + 4 * i + 1) = nI ta) (hrb : S 11 (40 * (4 * x + mm) + 4 * i + 2) = rb) (hrc : S 11 (40 * (4 * x + mm) + 4 * i + 3) = rc) (hta : ta ≤ 9) (h27 : X 27 f = nI 0) (hwk : S 17 0 = nI wk) (hwk80 : wk < 80) (hgp9 : gp < 10) (hg0 : gp = 0) : gm l yX7_goOn cX7_goOn 6 none (rmL 4) 0 0 A [.ref (adr 0), .int (nI f)] (gW G A adr (rcel G adr S X)) (gW G A adr (rcel G adr (m2 S 17 0 (nI (wk + 1))) (m2 (m2 (m2 (m2 (m2 (m2 (m2 X 28 f (nI gp)) 27 f (nI 1)) 27 f (nI 0)) 26 f (nI (i + 1))) 29 (10 * f + gp) (nI (if i + 1 + ta < ac then i + 1 + ta else ac))) 30 (10 * f + gp) rb) 28 f (nI (gp + 1))))) none := by
  refine gm_of (own := RX7) (by decide) rfl (Nat.le_of_ble_eq_true rfl) ?_
  intro p e s m below meth c ls F hml hr hlk hnm hK hR hl
  have hx := F.1
  have hb := F.2.1
  have hl : lv_has ls 6 [(0, .ref (adr 0)), (1, .int (nI f))] := hl
  refine goOn_head f x mm i gc gp ge F hR hK hl hff h24 hxx h25 hmm h26 hi h28 hgc hge hgp hpop htop (fun H locs ls hR hl => ?_)
  refine lv_aload_n hx hb dX7_goOn_65 rfl (lv_at hl 1 rfl) ?_
  refine rg_26 F hK hR dX7_goOn_66 ?_
  refine lv_iload_n hx hb dX7_goOn_69 rfl (lv_at hl 2 rfl) ?_
  refine ri_26 F hK hR (by omega) dX7_goOn_70 ?_
  refine lv_eq ((m2_nk (by decide)).trans (h26)) ?_
  refine lv_aload_n hx hb dX7_goOn_71 rfl (lv_at hl 1 rfl) ?_
  refine rg_10 F hK hR dX7_goOn_72 ?_
  refine lv_iload_n hx hb dX7_goOn_75 rfl (lv_at hl 0 rfl) ?_
  refine ri_10 F hK hR (by omega) dX7_goOn_76 ?_
  refine lv_eq (hac) ?_
  refine nv_icmp_ne (by omega) (by omega) hx hb dX7_goOn_77 (tgt := 101) (by decide) (fun c_77 => ?_) (fun c_77 => absurd c_77 (by omega))
  refine lv_bipush (v := nI 40) hx hb dX7_goOn_101 (by decide) ?_
  refine lv_iload_n hx hb dX7_goOn_103 rfl (lv_at hl 0 rfl) ?_
  refine nv_imul hx hb dX7_goOn_104 ?_
  refine lv_iconst (v := nI 4) hx hb dX7_goOn_105 (by decide) ?_
  refine lv_aload_n hx hb dX7_goOn_106 rfl (lv_at hl 1 rfl) ?_
  refine rg_26 F hK hR dX7_goOn_107 ?_
  refine lv_iload_n hx hb dX7_goOn_110 rfl (lv_at hl 2 rfl) ?_
  refine ri_26 F hK hR (by omega) dX7_goOn_111 ?_
  refine lv_eq ((m2_nk (by decide)).trans (h26)) ?_
  refine nv_imul hx hb dX7_goOn_112 ?_
  refine nv_iadd hx hb dX7_goOn_113 ?_
  refine lv_istore_n (lv' := [(3, .int (nI (40 * (4 * x + mm) + 4 * i))), (2, .int (nI (4 * x + mm))), (0, .ref (adr 0)), (1, .int (nI f))]) hx hb dX7_goOn_114 rfl hl (by decide) rfl (fun ls hl => ?_)
  refine lv_aload_n hx hb dX7_goOn_115 rfl (lv_at hl 2 rfl) ?_
  refine rg_27 F hK hR dX7_goOn_116 ?_
  refine lv_iload_n hx hb dX7_goOn_119 rfl (lv_at hl 3 rfl) ?_
  refine ri_27 F hK hR (by omega) dX7_goOn_120 ?_
  refine lv_eq ((m2_nk (by decide)).trans (h27)) ?_
  refine nv_if_ne (by omega) hx hb dX7_goOn_121 (tgt := 210) (by decide) (fun c_121 => absurd c_121 (by omega)) (fun c_121 => ?_)
  refine lv_aload_n hx hb dX7_goOn_124 rfl (lv_at hl 2 rfl) ?_
  refine rg_17 F hK hR dX7_goOn_125 ?_
  refine lv_eq (hwk) ?_
  refine lv_bipush (v := nI 80) hx hb dX7_goOn_128 (by decide) ?_
  refine nv_icmp_ne (by omega) (by omega) hx hb dX7_goOn_130 (tgt := 144) (by decide) (fun c_130 => ?_) (fun c_130 => absurd c_130 (by omega))
  refine lv_aload_n hx hb dX7_goOn_144 rfl (lv_at hl 2 rfl) ?_
  refine lv_dup hx hb dX7_goOn_145 rfl ?_
  refine rg_17 F hK hR dX7_goOn_146 ?_
  refine lv_eq (hwk) ?_
  refine lv_iconst (v := nI 1) hx hb dX7_goOn_149 (by decide) ?_
  refine nv_iadd hx hb dX7_goOn_150 ?_
  refine rp_17 F hK hR dX7_goOn_151 (fun H locs hR => ?_)
  refine lv_aload_n hx hb dX7_goOn_154 rfl (lv_at hl 2 rfl) ?_
  refine lv_aload_n hx hb dX7_goOn_155 rfl (lv_at hl 2 rfl) ?_
  refine rg_11 F hK hR dX7_goOn_156 ?_
  refine lv_iload_n hx hb dX7_goOn_159 rfl (lv_at hl 0 rfl) ?_
  refine ri_11 F hK hR (by omega) dX7_goOn_160 ?_
  refine lv_eq ((m2_nk (by decide)).trans (hso)) ?_
  refine lv_aload_n hx hb dX7_goOn_161 rfl (lv_at hl 2 rfl) ?_
  refine rg_11 F hK hR dX7_goOn_162 ?_
  refine lv_iload_n hx hb dX7_goOn_165 rfl (lv_at hl 0 rfl) ?_
  refine lv_iconst (v := nI 1) hx hb dX7_goOn_166 (by decide) ?_
  refine nv_iadd hx hb dX7_goOn_167 ?_
  refine ri_11 F hK hR (by omega) dX7_goOn_168 ?_
  refine lv_eq ((m2_nk (by decide)).trans (hra)) ?_
  refine lv_aload_n hx hb dX7_goOn_169 rfl (lv_at hl 2 rfl) ?_
  refine rg_11 F hK hR dX7_goOn_170 ?_
  refine lv_iload_n hx hb dX7_goOn_173 rfl (lv_at hl 0 rfl) ?_
  refine lv_iconst (v := nI 2) hx hb dX7_goOn_174 (by decide) ?_
  refine nv_iadd hx hb dX7_goOn_175 ?_
  refine ri_11 F hK hR (by omega) dX7_goOn_176 ?_
  refine lv_eq ((m2_nk (by decide)).trans (hrb)) ?_
  refine lv_aload_n hx hb dX7_goOn_177 rfl (lv_at hl 2 rfl) ?_
  refine rg_11 F hK hR dX7_goOn_178 ?_
  refine lv_iload_n hx hb dX7_goOn_181 rfl (lv_at hl 0 rfl) ?_
  refine lv_iconst (v := nI 3) hx hb dX7_goOn_182 (by decide) ?_
  refine nv_iadd hx hb dX7_goOn_183 ?_
  refine ri_11 F hK hR (by omega) dX7_goOn_184 ?_
  refine lv_eq ((m2_nk (by decide)).trans (hrc)) ?_
  refine gcVi (As := [.int (nI 11), .int (nI ta), .int rb, .int rc]) F hK hR hml cv_X7_148 (o := 0) rfl rfl rfl (c_X7_wants l G A adr (m2 S 17 0 (nI (wk + 1))) (m2 X 28 f (nI gp)) 11 (nI ta) rb rc (by omega) (fun _ h => absurd h (by omega))) ⟨rfl, rfl⟩ ⟨Nat.le_of_ble_eq_true rfl, Nat.le_of_ble_eq_true rfl⟩ rfl rfl hl.1 (Nat.le_of_ble_eq_true rfl) dX7_goOn_185 ⟨Nat.zero_le _, Nat.zero_le _⟩ (fun H locs hR => ?_)
  refine lv_istore (lv' := [(4, .int (-1)), (3, .int (nI (40 * (4 * x + mm) + 4 * i))), (2, .int (nI (4 * x + mm))), (0, .ref (adr 0)), (1, .int (nI f))]) hx hb dX7_goOn_188 hl (by decide) rfl (fun ls hl => ?_)
  refine lv_aload_n hx hb dX7_goOn_190 rfl (lv_at hl 3 rfl) ?_
  refine rg_27 F hK hR dX7_goOn_191 ?_
  refine lv_iload_n hx hb dX7_goOn_194 rfl (lv_at hl 4 rfl) ?_
  refine lv_iconst (v := nI 1) hx hb dX7_goOn_195 (by decide) ?_
  refine rs_27 F hK hR (by omega) dX7_goOn_196 (fun H locs hR => ?_)
  refine lv_iload hx hb dX7_goOn_197 (lv_at hl 0 rfl) ?_
  refine lv_iconst (v := (-1)) hx hb dX7_goOn_199 (by decide) ?_
  refine lv_icmp_eq (tgt := 210) hx hb dX7_goOn_200 (by decide) (fun c_200 => ?_) (fun c_200 => absurd rfl c_200)
  refine lv_aload_n hx hb dX7_goOn_210 rfl (lv_at hl 3 rfl) ?_
  refine rg_27 F hK hR dX7_goOn_211 ?_
  refine lv_iload_n hx hb dX7_goOn_214 rfl (lv_at hl 4 rfl) ?_
  refine lv_iconst (v := nI 0) hx hb dX7_goOn_215 (by decide) ?_
  refine rs_27 F hK hR (by omega) dX7_goOn_216 (fun H locs hR => ?_)
  refine lv_aload_n hx hb dX7_goOn_217 rfl (lv_at hl 3 rfl) ?_
  refine rg_26 F hK hR dX7_goOn_218 ?_
  refine lv_iload_n hx hb dX7_goOn_221 rfl (lv_at hl 4 rfl) ?_
  refine lv_dup2_11 hx hb dX7_goOn_222 rfl rfl ?_
  refine ri_26 F hK hR (by omega) dX7_goOn_223 ?_
  refine lv_eq ((((m2_nk (by decide)).trans (m2_nk (by decide))).trans (m2_nk (by decide))).trans (h26)) ?_
  refine lv_iconst (v := nI 1) hx hb dX7_goOn_224 (by decide) ?_
  refine nv_iadd hx hb dX7_goOn_225 ?_
  refine rs_26 F hK hR (by omega) dX7_goOn_226 (fun H locs hR => ?_)
  refine lv_aload_n hx hb dX7_goOn_227 rfl (lv_at hl 3 rfl) ?_
  refine rg_11 F hK hR dX7_goOn_228 ?_
  refine lv_iload_n hx hb dX7_goOn_231 rfl (lv_at hl 1 rfl) ?_
  refine ri_11 F hK hR (by omega) dX7_goOn_232 ?_
  refine lv_eq ((m2_nk (by decide)).trans (hso)) ?_
  refine lv_bipush (v := nI 11) hx hb dX7_goOn_233 (by decide) ?_
  refine nv_icmp_ne (by omega) (by omega) hx hb dX7_goOn_235 (tgt := 360) (by decide) (fun c_235 => absurd c_235 (by omega)) (fun c_235 => ?_)
  refine lv_aload_n hx hb dX7_goOn_238 rfl (lv_at hl 3 rfl) ?_
  refine rg_28 F hK hR dX7_goOn_239 ?_
  refine lv_iload_n hx hb dX7_goOn_242 rfl (lv_at hl 4 rfl) ?_
  refine ri_28 F hK hR (by omega) dX7_goOn_243 ?_
  refine lv_eq ((((m2_nk (by decide)).trans (m2_nk (by decide))).trans (m2_nk (by decide))).trans (m2_at)) ?_
  refine nv_if_le (by omega) hx hb dX7_goOn_244 (tgt := 268) (by decide) (fun c_244 => ?_) (fun c_244 => absurd c_244 (by omega))
  refine lv_aload_n hx hb dX7_goOn_268 rfl (lv_at hl 3 rfl) ?_
  refine rg_10 F hK hR dX7_goOn_269 ?_
  refine lv_iload_n hx hb dX7_goOn_272 rfl (lv_at hl 2 rfl) ?_
  refine ri_10 F hK hR (by omega) dX7_goOn_273 ?_
  refine lv_eq ((m2_nk (by decide)).trans (hac)) ?_
  refine lv_istore (lv' := [(4, .int (nI ac)), (3, .int (nI (40 * (4 * x + mm) + 4 * i))), (2, .int (nI (4 * x + mm))), (0, .ref (adr 0)), (1, .int (nI f))]) hx hb dX7_goOn_274 hl (by decide) rfl (fun ls hl => ?_)
  refine lv_aload_n hx hb dX7_goOn_276 rfl (lv_at hl 3 rfl) ?_
  refine rg_26 F hK hR dX7_goOn_277 ?_
  refine lv_iload_n hx hb dX7_goOn_280 rfl (lv_at hl 4 rfl) ?_
  refine ri_26 F hK hR (by omega) dX7_goOn_281 ?_
  refine lv_eq (m2_at) ?_
  refine lv_aload_n hx hb dX7_goOn_282 rfl (lv_at hl 3 rfl) ?_
  refine rg_11 F hK hR dX7_goOn_283 ?_
  refine lv_iload_n hx hb dX7_goOn_286 rfl (lv_at hl 1 rfl) ?_
  refine lv_iconst (v := nI 1) hx hb dX7_goOn_287 (by decide) ?_
  refine nv_iadd hx hb dX7_goOn_288 ?_
  refine ri_11 F hK hR (by omega) dX7_goOn_289 ?_
  refine lv_eq ((m2_nk (by decide)).trans (hra)) ?_
  refine nv_iadd hx hb dX7_goOn_290 ?_
  refine lv_istore (lv' := [(5, .int (nI (i + 1 + ta))), (4, .int (nI ac)), (3, .int (nI (40 * (4 * x + mm) + 4 * i))), (2, .int (nI (4 * x + mm))), (0, .ref (adr 0)), (1, .int (nI f))]) hx hb dX7_goOn_291 hl (by decide) rfl (fun ls hl => ?_)
  refine lv_aload_n hx hb dX7_goOn_293 rfl (lv_at hl 4 rfl) ?_
  refine rg_29 F hK hR dX7_goOn_294 ?_
  refine lv_bipush (v := nI 10) hx hb dX7_goOn_297 (by decide) ?_
  refine lv_iload_n hx hb dX7_goOn_299 rfl (lv_at hl 5 rfl) ?_
  refine nv_imul hx hb dX7_goOn_300 ?_
  refine lv_aload_n hx hb dX7_goOn_301 rfl (lv_at hl 4 rfl) ?_
  refine rg_28 F hK hR dX7_goOn_302 ?_
  refine lv_iload_n hx hb dX7_goOn_305 rfl (lv_at hl 5 rfl) ?_
  refine ri_28 F hK hR (by omega) dX7_goOn_306 ?_
  refine lv_eq ((((m2_nk (by decide)).trans (m2_nk (by decide))).trans (m2_nk (by decide))).trans (m2_at)) ?_
  refine nv_iadd hx hb dX7_goOn_307 ?_
  refine lv_iload hx hb dX7_goOn_308 (lv_at hl 0 rfl) ?_
  refine lv_iload hx hb dX7_goOn_310 (lv_at hl 1 rfl) ?_
  refine nv_icmp_ge (by omega) (by omega) hx hb dX7_goOn_312 (tgt := 320) (by decide) (fun c_312 => ?_) (fun c_312 => ?_)
  · have n_312 : ¬ ((i + 1 + ta) < ac) := by omega
    refine lv_iload hx hb dX7_goOn_320 (lv_at hl 1 rfl) ?_
    refine rs_29 F hK hR (by omega) dX7_goOn_322 (fun H locs hR => ?_)
    refine lv_aload_n hx hb dX7_goOn_323 rfl (lv_at hl 4 rfl) ?_
    refine rg_30 F hK hR dX7_goOn_324 ?_
    refine lv_bipush (v := nI 10) hx hb dX7_goOn_327 (by decide) ?_
    refine lv_iload_n hx hb dX7_goOn_329 rfl (lv_at hl 5 rfl) ?_
    refine nv_imul hx hb dX7_goOn_330 ?_
    refine lv_aload_n hx hb dX7_goOn_331 rfl (lv_at hl 4 rfl) ?_
    refine rg_28 F hK hR dX7_goOn_332 ?_
    refine lv_iload_n hx hb dX7_goOn_335 rfl (lv_at hl 5 rfl) ?_
    refine ri_28 F hK hR (by omega) dX7_goOn_336 ?_
    refine lv_eq (((((m2_nk (by decide)).trans (m2_nk (by decide))).trans (m2_nk (by decide))).trans (m2_nk (by decide))).trans (m2_at)) ?_
    refine nv_iadd hx hb dX7_goOn_337 ?_
    refine lv_aload_n hx hb dX7_goOn_338 rfl (lv_at hl 4 rfl) ?_
    refine rg_11 F hK hR dX7_goOn_339 ?_
    refine lv_iload_n hx hb dX7_goOn_342 rfl (lv_at hl 2 rfl) ?_
    refine lv_iconst (v := nI 2) hx hb dX7_goOn_343 (by decide) ?_
    refine nv_iadd hx hb dX7_goOn_344 ?_
    refine ri_11 F hK hR (by omega) dX7_goOn_345 ?_
    refine lv_eq ((m2_nk (by decide)).trans (hrb)) ?_
    refine rs_30 F hK hR (by omega) dX7_goOn_346 (fun H locs hR => ?_)
    refine lv_aload_n hx hb dX7_goOn_347 rfl (lv_at hl 4 rfl) ?_
    refine rg_28 F hK hR dX7_goOn_348 ?_
    refine lv_iload_n hx hb dX7_goOn_351 rfl (lv_at hl 5 rfl) ?_
    refine lv_dup2_11 hx hb dX7_goOn_352 rfl rfl ?_
    refine ri_28 F hK hR (by omega) dX7_goOn_353 ?_
    refine lv_eq ((((((m2_nk (by decide)).trans (m2_nk (by decide))).trans (m2_nk (by decide))).trans (m2_nk (by decide))).trans (m2_nk (by decide))).trans (m2_at)) ?_
    refine lv_iconst (v := nI 1) hx hb dX7_goOn_354 (by decide) ?_
    refine nv_iadd hx hb dX7_goOn_355 ?_
    refine rs_28 F hK hR (by omega) dX7_goOn_356 (fun H locs hR => ?_)
    refine lv_goto (tgt := 472) hx hb dX7_goOn_357 (by decide) ?_
    exact gr_v F hr hlk hK hR dX7_goOn_472 (by rw [if_neg (by omega)])
  · have n_312 : ¬ (ac ≤ (i + 1 + ta)) := by omega
    refine lv_iload hx hb dX7_goOn_315 (lv_at hl 0 rfl) ?_
    refine lv_goto (tgt := 322) hx hb dX7_goOn_317 (by decide) ?_
    refine rs_29 F hK hR (by omega) dX7_goOn_322 (fun H locs hR => ?_)
    refine lv_aload_n hx hb dX7_goOn_323 rfl (lv_at hl 4 rfl) ?_
    refine rg_30 F hK hR dX7_goOn_324 ?_
    refine lv_bipush (v := nI 10) hx hb dX7_goOn_327 (by decide) ?_
    refine lv_iload_n hx hb dX7_goOn_329 rfl (lv_at hl 5 rfl) ?_
    refine nv_imul hx hb dX7_goOn_330 ?_
    refine lv_aload_n hx hb dX7_goOn_331 rfl (lv_at hl 4 rfl) ?_
    refine rg_28 F hK hR dX7_goOn_332 ?_
    refine lv_iload_n hx hb dX7_goOn_335 rfl (lv_at hl 5 rfl) ?_
    refine ri_28 F hK hR (by omega) dX7_goOn_336 ?_
    refine lv_eq (((((m2_nk (by decide)).trans (m2_nk (by decide))).trans (m2_nk (by decide))).trans (m2_nk (by decide))).trans (m2_at)) ?_
    refine nv_iadd hx hb dX7_goOn_337 ?_
    refine lv_aload_n hx hb dX7_goOn_338 rfl (lv_at hl 4 rfl) ?_
    refine rg_11 F hK hR dX7_goOn_339 ?_
    refine lv_iload_n hx hb dX7_goOn_342 rfl (lv_at hl 2 rfl) ?_
    refine lv_iconst (v := nI 2) hx hb dX7_goOn_343 (by decide) ?_
    refine nv_iadd hx hb dX7_goOn_344 ?_
    refine ri_11 F hK hR (by omega) dX7_goOn_345 ?_
    refine lv_eq ((m2_nk (by decide)).trans (hrb)) ?_
    refine rs_30 F hK hR (by omega) dX7_goOn_346 (fun H locs hR => ?_)
    refine lv_aload_n hx hb dX7_goOn_347 rfl (lv_at hl 4 rfl) ?_
    refine rg_28 F hK hR dX7_goOn_348 ?_
    refine lv_iload_n hx hb dX7_goOn_351 rfl (lv_at hl 5 rfl) ?_
    refine lv_dup2_11 hx hb dX7_goOn_352 rfl rfl ?_
    refine ri_28 F hK hR (by omega) dX7_goOn_353 ?_
    refine lv_eq ((((((m2_nk (by decide)).trans (m2_nk (by decide))).trans (m2_nk (by decide))).trans (m2_nk (by decide))).trans (m2_nk (by decide))).trans (m2_at)) ?_
    refine lv_iconst (v := nI 1) hx hb dX7_goOn_354 (by decide) ?_
    refine nv_iadd hx hb dX7_goOn_355 ?_
    refine rs_28 F hK hR (by omega) dX7_goOn_356 (fun H locs hR => ?_)
    refine lv_goto (tgt := 472) hx hb dX7_goOn_357 (by decide) ?_
    exact gr_v F hr hlk hK hR dX7_goOn_472 (by rw [if_pos (by omega)])
set_option maxHeartbeats 4000000 in
set_option maxRecDepth 100000 in
theorem c_X7_goOnT1 (l : Launch) (G : gw_G) (A : Nat → Prop) (adr : Nat → Nat) (S X : Nat → Nat → Int32) (f x mm i gc gp : Nat) (ge : Nat → Nat) (ac ta wk : Nat) (rb rc : Int32) (hff : f < 300) (h24 : X 24 f = nI x) (hxx : x < 12) (h25 : X 25 f = nI mm) (hmm : mm < 4) (h26 : X 26 f = nI i) (hi : i ≤ 10) (h28 : X 28 f = nI gc) (hgc : gc ≤ 10) (hge : ∀ j, j < gc → X 29 (10 * f + j) = nI (ge j) ∧ ge j ≤ 10) (hgp : gp ≤ gc) (hpop : ∀ j, gp ≤ j → j < gc → ge j ≤ i) (htop : gp = 0 ∨ i < ge (gp - 1)) (hac : S 10 (4 * x + mm) = nI ac) (hia : i < ac) (hac10 : ac ≤ 10) (hso : S 11 (40 * (4 * x + mm) + 4 * i) = nI 11) (hra : S 11 (40 * (4 * x + mm) + 4 * i + 1) = nI ta) (hrb : S 11 (40 * (4 * x + mm) + 4 * i + 2) = rb) (hrc : S 11 (40 * (4 * x + mm) + 4 * i + 3) = rc) (hta : ta ≤ 9) (h27 : X 27 f = nI 0) (hwk : S 17 0 = nI wk) (hwk80 : wk < 80) (hgp9 : gp < 10) (hg0 : 0 < gp) : gm l yX7_goOn cX7_goOn 6 none (rmL 4) 0 0 A [.ref (adr 0), .int (nI f)] (gW G A adr (rcel G adr S X)) (gW G A adr (rcel G adr (m2 S 17 0 (nI (wk + 1))) (m2 (m2 (m2 (m2 (m2 (m2 (m2 X 28 f (nI gp)) 27 f (nI 1)) 27 f (nI 0)) 26 f (nI (i + 1))) 29 (10 * f + gp) (nI (if i + 1 + ta < ge (gp - 1) then i + 1 + ta else ge (gp - 1)))) 30 (10 * f + gp) rb) 28 f (nI (gp + 1))))) none := by
  refine gm_of (own := RX7) (by decide) rfl (Nat.le_of_ble_eq_true rfl) ?_
  intro p e s m below meth c ls F hml hr hlk hnm hK hR hl
  have hx := F.1
  have hb := F.2.1
  have hl : lv_has ls 6 [(0, .ref (adr 0)), (1, .int (nI f))] := hl
  refine goOn_head f x mm i gc gp ge F hR hK hl hff h24 hxx h25 hmm h26 hi h28 hgc hge hgp hpop htop (fun H locs ls hR hl => ?_)
  refine lv_aload_n hx hb dX7_goOn_65 rfl (lv_at hl 1 rfl) ?_
  refine rg_26 F hK hR dX7_goOn_66 ?_
  refine lv_iload_n hx hb dX7_goOn_69 rfl (lv_at hl 2 rfl) ?_
  refine ri_26 F hK hR (by omega) dX7_goOn_70 ?_
  refine lv_eq ((m2_nk (by decide)).trans (h26)) ?_
  refine lv_aload_n hx hb dX7_goOn_71 rfl (lv_at hl 1 rfl) ?_
  refine rg_10 F hK hR dX7_goOn_72 ?_
  refine lv_iload_n hx hb dX7_goOn_75 rfl (lv_at hl 0 rfl) ?_
  refine ri_10 F hK hR (by omega) dX7_goOn_76 ?_
  refine lv_eq (hac) ?_
  refine nv_icmp_ne (by omega) (by omega) hx hb dX7_goOn_77 (tgt := 101) (by decide) (fun c_77 => ?_) (fun c_77 => absurd c_77 (by omega))
  refine lv_bipush (v := nI 40) hx hb dX7_goOn_101 (by decide) ?_
  refine lv_iload_n hx hb dX7_goOn_103 rfl (lv_at hl 0 rfl) ?_
  refine nv_imul hx hb dX7_goOn_104 ?_
  refine lv_iconst (v := nI 4) hx hb dX7_goOn_105 (by decide) ?_
  refine lv_aload_n hx hb dX7_goOn_106 rfl (lv_at hl 1 rfl) ?_
  refine rg_26 F hK hR dX7_goOn_107 ?_
  refine lv_iload_n hx hb dX7_goOn_110 rfl (lv_at hl 2 rfl) ?_
  refine ri_26 F hK hR (by omega) dX7_goOn_111 ?_
  refine lv_eq ((m2_nk (by decide)).trans (h26)) ?_
  refine nv_imul hx hb dX7_goOn_112 ?_
  refine nv_iadd hx hb dX7_goOn_113 ?_
  refine lv_istore_n (lv' := [(3, .int (nI (40 * (4 * x + mm) + 4 * i))), (2, .int (nI (4 * x + mm))), (0, .ref (adr 0)), (1, .int (nI f))]) hx hb dX7_goOn_114 rfl hl (by decide) rfl (fun ls hl => ?_)
  refine lv_aload_n hx hb dX7_goOn_115 rfl (lv_at hl 2 rfl) ?_
  refine rg_27 F hK hR dX7_goOn_116 ?_
  refine lv_iload_n hx hb dX7_goOn_119 rfl (lv_at hl 3 rfl) ?_
  refine ri_27 F hK hR (by omega) dX7_goOn_120 ?_
  refine lv_eq ((m2_nk (by decide)).trans (h27)) ?_
  refine nv_if_ne (by omega) hx hb dX7_goOn_121 (tgt := 210) (by decide) (fun c_121 => absurd c_121 (by omega)) (fun c_121 => ?_)
  refine lv_aload_n hx hb dX7_goOn_124 rfl (lv_at hl 2 rfl) ?_
  refine rg_17 F hK hR dX7_goOn_125 ?_
  refine lv_eq (hwk) ?_
  refine lv_bipush (v := nI 80) hx hb dX7_goOn_128 (by decide) ?_
  refine nv_icmp_ne (by omega) (by omega) hx hb dX7_goOn_130 (tgt := 144) (by decide) (fun c_130 => ?_) (fun c_130 => absurd c_130 (by omega))
  refine lv_aload_n hx hb dX7_goOn_144 rfl (lv_at hl 2 rfl) ?_
  refine lv_dup hx hb dX7_goOn_145 rfl ?_
  refine rg_17 F hK hR dX7_goOn_146 ?_
  refine lv_eq (hwk) ?_
  refine lv_iconst (v := nI 1) hx hb dX7_goOn_149 (by decide) ?_
  refine nv_iadd hx hb dX7_goOn_150 ?_
  refine rp_17 F hK hR dX7_goOn_151 (fun H locs hR => ?_)
  refine lv_aload_n hx hb dX7_goOn_154 rfl (lv_at hl 2 rfl) ?_
  refine lv_aload_n hx hb dX7_goOn_155 rfl (lv_at hl 2 rfl) ?_
  refine rg_11 F hK hR dX7_goOn_156 ?_
  refine lv_iload_n hx hb dX7_goOn_159 rfl (lv_at hl 0 rfl) ?_
  refine ri_11 F hK hR (by omega) dX7_goOn_160 ?_
  refine lv_eq ((m2_nk (by decide)).trans (hso)) ?_
  refine lv_aload_n hx hb dX7_goOn_161 rfl (lv_at hl 2 rfl) ?_
  refine rg_11 F hK hR dX7_goOn_162 ?_
  refine lv_iload_n hx hb dX7_goOn_165 rfl (lv_at hl 0 rfl) ?_
  refine lv_iconst (v := nI 1) hx hb dX7_goOn_166 (by decide) ?_
  refine nv_iadd hx hb dX7_goOn_167 ?_
  refine ri_11 F hK hR (by omega) dX7_goOn_168 ?_
  refine lv_eq ((m2_nk (by decide)).trans (hra)) ?_
  refine lv_aload_n hx hb dX7_goOn_169 rfl (lv_at hl 2 rfl) ?_
  refine rg_11 F hK hR dX7_goOn_170 ?_
  refine lv_iload_n hx hb dX7_goOn_173 rfl (lv_at hl 0 rfl) ?_
  refine lv_iconst (v := nI 2) hx hb dX7_goOn_174 (by decide) ?_
  refine nv_iadd hx hb dX7_goOn_175 ?_
  refine ri_11 F hK hR (by omega) dX7_goOn_176 ?_
  refine lv_eq ((m2_nk (by decide)).trans (hrb)) ?_
  refine lv_aload_n hx hb dX7_goOn_177 rfl (lv_at hl 2 rfl) ?_
  refine rg_11 F hK hR dX7_goOn_178 ?_
  refine lv_iload_n hx hb dX7_goOn_181 rfl (lv_at hl 0 rfl) ?_
  refine lv_iconst (v := nI 3) hx hb dX7_goOn_182 (by decide) ?_
  refine nv_iadd hx hb dX7_goOn_183 ?_
  refine ri_11 F hK hR (by omega) dX7_goOn_184 ?_
  refine lv_eq ((m2_nk (by decide)).trans (hrc)) ?_
  refine gcVi (As := [.int (nI 11), .int (nI ta), .int rb, .int rc]) F hK hR hml cv_X7_148 (o := 0) rfl rfl rfl (c_X7_wants l G A adr (m2 S 17 0 (nI (wk + 1))) (m2 X 28 f (nI gp)) 11 (nI ta) rb rc (by omega) (fun _ h => absurd h (by omega))) ⟨rfl, rfl⟩ ⟨Nat.le_of_ble_eq_true rfl, Nat.le_of_ble_eq_true rfl⟩ rfl rfl hl.1 (Nat.le_of_ble_eq_true rfl) dX7_goOn_185 ⟨Nat.zero_le _, Nat.zero_le _⟩ (fun H locs hR => ?_)
  refine lv_istore (lv' := [(4, .int (-1)), (3, .int (nI (40 * (4 * x + mm) + 4 * i))), (2, .int (nI (4 * x + mm))), (0, .ref (adr 0)), (1, .int (nI f))]) hx hb dX7_goOn_188 hl (by decide) rfl (fun ls hl => ?_)
  refine lv_aload_n hx hb dX7_goOn_190 rfl (lv_at hl 3 rfl) ?_
  refine rg_27 F hK hR dX7_goOn_191 ?_
  refine lv_iload_n hx hb dX7_goOn_194 rfl (lv_at hl 4 rfl) ?_
  refine lv_iconst (v := nI 1) hx hb dX7_goOn_195 (by decide) ?_
  refine rs_27 F hK hR (by omega) dX7_goOn_196 (fun H locs hR => ?_)
  refine lv_iload hx hb dX7_goOn_197 (lv_at hl 0 rfl) ?_
  refine lv_iconst (v := (-1)) hx hb dX7_goOn_199 (by decide) ?_
  refine lv_icmp_eq (tgt := 210) hx hb dX7_goOn_200 (by decide) (fun c_200 => ?_) (fun c_200 => absurd rfl c_200)
  refine lv_aload_n hx hb dX7_goOn_210 rfl (lv_at hl 3 rfl) ?_
  refine rg_27 F hK hR dX7_goOn_211 ?_
  refine lv_iload_n hx hb dX7_goOn_214 rfl (lv_at hl 4 rfl) ?_
  refine lv_iconst (v := nI 0) hx hb dX7_goOn_215 (by decide) ?_
  refine rs_27 F hK hR (by omega) dX7_goOn_216 (fun H locs hR => ?_)
  refine lv_aload_n hx hb dX7_goOn_217 rfl (lv_at hl 3 rfl) ?_
  refine rg_26 F hK hR dX7_goOn_218 ?_
  refine lv_iload_n hx hb dX7_goOn_221 rfl (lv_at hl 4 rfl) ?_
  refine lv_dup2_11 hx hb dX7_goOn_222 rfl rfl ?_
  refine ri_26 F hK hR (by omega) dX7_goOn_223 ?_
  refine lv_eq ((((m2_nk (by decide)).trans (m2_nk (by decide))).trans (m2_nk (by decide))).trans (h26)) ?_
  refine lv_iconst (v := nI 1) hx hb dX7_goOn_224 (by decide) ?_
  refine nv_iadd hx hb dX7_goOn_225 ?_
  refine rs_26 F hK hR (by omega) dX7_goOn_226 (fun H locs hR => ?_)
  refine lv_aload_n hx hb dX7_goOn_227 rfl (lv_at hl 3 rfl) ?_
  refine rg_11 F hK hR dX7_goOn_228 ?_
  refine lv_iload_n hx hb dX7_goOn_231 rfl (lv_at hl 1 rfl) ?_
  refine ri_11 F hK hR (by omega) dX7_goOn_232 ?_
  refine lv_eq ((m2_nk (by decide)).trans (hso)) ?_
  refine lv_bipush (v := nI 11) hx hb dX7_goOn_233 (by decide) ?_
  refine nv_icmp_ne (by omega) (by omega) hx hb dX7_goOn_235 (tgt := 360) (by decide) (fun c_235 => absurd c_235 (by omega)) (fun c_235 => ?_)
  refine lv_aload_n hx hb dX7_goOn_238 rfl (lv_at hl 3 rfl) ?_
  refine rg_28 F hK hR dX7_goOn_239 ?_
  refine lv_iload_n hx hb dX7_goOn_242 rfl (lv_at hl 4 rfl) ?_
  refine ri_28 F hK hR (by omega) dX7_goOn_243 ?_
  refine lv_eq ((((m2_nk (by decide)).trans (m2_nk (by decide))).trans (m2_nk (by decide))).trans (m2_at)) ?_
  refine nv_if_le (by omega) hx hb dX7_goOn_244 (tgt := 268) (by decide) (fun c_244 => absurd c_244 (by omega)) (fun c_244 => ?_)
  have e29 : X 29 (10 * f + gp - 1) = nI (ge (gp - 1)) := by rw [show 10 * f + gp - 1 = 10 * f + (gp - 1) by omega]; exact (hge _ (by omega)).1
  have b29 := (hge (gp - 1) (by omega)).2
  refine lv_aload_n hx hb dX7_goOn_247 rfl (lv_at hl 3 rfl) ?_
  refine rg_29 F hK hR dX7_goOn_248 ?_
  refine lv_bipush (v := nI 10) hx hb dX7_goOn_251 (by decide) ?_
  refine lv_iload_n hx hb dX7_goOn_253 rfl (lv_at hl 4 rfl) ?_
  refine nv_imul hx hb dX7_goOn_254 ?_
  refine lv_aload_n hx hb dX7_goOn_255 rfl (lv_at hl 3 rfl) ?_
  refine rg_28 F hK hR dX7_goOn_256 ?_
  refine lv_iload_n hx hb dX7_goOn_259 rfl (lv_at hl 4 rfl) ?_
  refine ri_28 F hK hR (by omega) dX7_goOn_260 ?_
  refine lv_eq ((((m2_nk (by decide)).trans (m2_nk (by decide))).trans (m2_nk (by decide))).trans (m2_at)) ?_
  refine nv_iadd hx hb dX7_goOn_261 ?_
  refine lv_iconst (v := nI 1) hx hb dX7_goOn_262 (by decide) ?_
  refine nv_isub (by omega) hx hb dX7_goOn_263 ?_
  refine ri_29 F hK hR (by omega) dX7_goOn_264 ?_
  refine lv_eq (((((m2_nk (by decide)).trans (m2_nk (by decide))).trans (m2_nk (by decide))).trans (m2_nk (by decide))).trans (e29)) ?_
  refine lv_goto (tgt := 274) hx hb dX7_goOn_265 (by decide) ?_
  refine lv_istore (lv' := [(4, .int (nI (ge (gp - 1)))), (3, .int (nI (40 * (4 * x + mm) + 4 * i))), (2, .int (nI (4 * x + mm))), (0, .ref (adr 0)), (1, .int (nI f))]) hx hb dX7_goOn_274 hl (by decide) rfl (fun ls hl => ?_)
  refine lv_aload_n hx hb dX7_goOn_276 rfl (lv_at hl 3 rfl) ?_
  refine rg_26 F hK hR dX7_goOn_277 ?_
  refine lv_iload_n hx hb dX7_goOn_280 rfl (lv_at hl 4 rfl) ?_
  refine ri_26 F hK hR (by omega) dX7_goOn_281 ?_
  refine lv_eq (m2_at) ?_
  refine lv_aload_n hx hb dX7_goOn_282 rfl (lv_at hl 3 rfl) ?_
  refine rg_11 F hK hR dX7_goOn_283 ?_
  refine lv_iload_n hx hb dX7_goOn_286 rfl (lv_at hl 1 rfl) ?_
  refine lv_iconst (v := nI 1) hx hb dX7_goOn_287 (by decide) ?_
  refine nv_iadd hx hb dX7_goOn_288 ?_
  refine ri_11 F hK hR (by omega) dX7_goOn_289 ?_
  refine lv_eq ((m2_nk (by decide)).trans (hra)) ?_
  refine nv_iadd hx hb dX7_goOn_290 ?_
  refine lv_istore (lv' := [(5, .int (nI (i + 1 + ta))), (4, .int (nI (ge (gp - 1)))), (3, .int (nI (40 * (4 * x + mm) + 4 * i))), (2, .int (nI (4 * x + mm))), (0, .ref (adr 0)), (1, .int (nI f))]) hx hb dX7_goOn_291 hl (by decide) rfl (fun ls hl => ?_)
  refine lv_aload_n hx hb dX7_goOn_293 rfl (lv_at hl 4 rfl) ?_
  refine rg_29 F hK hR dX7_goOn_294 ?_
  refine lv_bipush (v := nI 10) hx hb dX7_goOn_297 (by decide) ?_
  refine lv_iload_n hx hb dX7_goOn_299 rfl (lv_at hl 5 rfl) ?_
  refine nv_imul hx hb dX7_goOn_300 ?_
  refine lv_aload_n hx hb dX7_goOn_301 rfl (lv_at hl 4 rfl) ?_
  refine rg_28 F hK hR dX7_goOn_302 ?_
  refine lv_iload_n hx hb dX7_goOn_305 rfl (lv_at hl 5 rfl) ?_
  refine ri_28 F hK hR (by omega) dX7_goOn_306 ?_
  refine lv_eq ((((m2_nk (by decide)).trans (m2_nk (by decide))).trans (m2_nk (by decide))).trans (m2_at)) ?_
  refine nv_iadd hx hb dX7_goOn_307 ?_
  refine lv_iload hx hb dX7_goOn_308 (lv_at hl 0 rfl) ?_
  refine lv_iload hx hb dX7_goOn_310 (lv_at hl 1 rfl) ?_
  refine nv_icmp_ge (by omega) (by omega) hx hb dX7_goOn_312 (tgt := 320) (by decide) (fun c_312 => ?_) (fun c_312 => ?_)
  · have n_312 : ¬ ((i + 1 + ta) < (ge (gp - 1))) := by omega
    refine lv_iload hx hb dX7_goOn_320 (lv_at hl 1 rfl) ?_
    refine rs_29 F hK hR (by omega) dX7_goOn_322 (fun H locs hR => ?_)
    refine lv_aload_n hx hb dX7_goOn_323 rfl (lv_at hl 4 rfl) ?_
    refine rg_30 F hK hR dX7_goOn_324 ?_
    refine lv_bipush (v := nI 10) hx hb dX7_goOn_327 (by decide) ?_
    refine lv_iload_n hx hb dX7_goOn_329 rfl (lv_at hl 5 rfl) ?_
    refine nv_imul hx hb dX7_goOn_330 ?_
    refine lv_aload_n hx hb dX7_goOn_331 rfl (lv_at hl 4 rfl) ?_
    refine rg_28 F hK hR dX7_goOn_332 ?_
    refine lv_iload_n hx hb dX7_goOn_335 rfl (lv_at hl 5 rfl) ?_
    refine ri_28 F hK hR (by omega) dX7_goOn_336 ?_
    refine lv_eq (((((m2_nk (by decide)).trans (m2_nk (by decide))).trans (m2_nk (by decide))).trans (m2_nk (by decide))).trans (m2_at)) ?_
    refine nv_iadd hx hb dX7_goOn_337 ?_
    refine lv_aload_n hx hb dX7_goOn_338 rfl (lv_at hl 4 rfl) ?_
    refine rg_11 F hK hR dX7_goOn_339 ?_
    refine lv_iload_n hx hb dX7_goOn_342 rfl (lv_at hl 2 rfl) ?_
    refine lv_iconst (v := nI 2) hx hb dX7_goOn_343 (by decide) ?_
    refine nv_iadd hx hb dX7_goOn_344 ?_
    refine ri_11 F hK hR (by omega) dX7_goOn_345 ?_
    refine lv_eq ((m2_nk (by decide)).trans (hrb)) ?_
    refine rs_30 F hK hR (by omega) dX7_goOn_346 (fun H locs hR => ?_)
    refine lv_aload_n hx hb dX7_goOn_347 rfl (lv_at hl 4 rfl) ?_
    refine rg_28 F hK hR dX7_goOn_348 ?_
    refine lv_iload_n hx hb dX7_goOn_351 rfl (lv_at hl 5 rfl) ?_
    refine lv_dup2_11 hx hb dX7_goOn_352 rfl rfl ?_
    refine ri_28 F hK hR (by omega) dX7_goOn_353 ?_
    refine lv_eq ((((((m2_nk (by decide)).trans (m2_nk (by decide))).trans (m2_nk (by decide))).trans (m2_nk (by decide))).trans (m2_nk (by decide))).trans (m2_at)) ?_
    refine lv_iconst (v := nI 1) hx hb dX7_goOn_354 (by decide) ?_
    refine nv_iadd hx hb dX7_goOn_355 ?_
    refine rs_28 F hK hR (by omega) dX7_goOn_356 (fun H locs hR => ?_)
    refine lv_goto (tgt := 472) hx hb dX7_goOn_357 (by decide) ?_
    exact gr_v F hr hlk hK hR dX7_goOn_472 (by rw [if_neg (by omega)])
  · have n_312 : ¬ ((ge (gp - 1)) ≤ (i + 1 + ta)) := by omega
    refine lv_iload hx hb dX7_goOn_315 (lv_at hl 0 rfl) ?_
    refine lv_goto (tgt := 322) hx hb dX7_goOn_317 (by decide) ?_
    refine rs_29 F hK hR (by omega) dX7_goOn_322 (fun H locs hR => ?_)
    refine lv_aload_n hx hb dX7_goOn_323 rfl (lv_at hl 4 rfl) ?_
    refine rg_30 F hK hR dX7_goOn_324 ?_
    refine lv_bipush (v := nI 10) hx hb dX7_goOn_327 (by decide) ?_
    refine lv_iload_n hx hb dX7_goOn_329 rfl (lv_at hl 5 rfl) ?_
    refine nv_imul hx hb dX7_goOn_330 ?_
    refine lv_aload_n hx hb dX7_goOn_331 rfl (lv_at hl 4 rfl) ?_
    refine rg_28 F hK hR dX7_goOn_332 ?_
    refine lv_iload_n hx hb dX7_goOn_335 rfl (lv_at hl 5 rfl) ?_
    refine ri_28 F hK hR (by omega) dX7_goOn_336 ?_
    refine lv_eq (((((m2_nk (by decide)).trans (m2_nk (by decide))).trans (m2_nk (by decide))).trans (m2_nk (by decide))).trans (m2_at)) ?_
    refine nv_iadd hx hb dX7_goOn_337 ?_
    refine lv_aload_n hx hb dX7_goOn_338 rfl (lv_at hl 4 rfl) ?_
    refine rg_11 F hK hR dX7_goOn_339 ?_
    refine lv_iload_n hx hb dX7_goOn_342 rfl (lv_at hl 2 rfl) ?_
    refine lv_iconst (v := nI 2) hx hb dX7_goOn_343 (by decide) ?_
    refine nv_iadd hx hb dX7_goOn_344 ?_
    refine ri_11 F hK hR (by omega) dX7_goOn_345 ?_
    refine lv_eq ((m2_nk (by decide)).trans (hrb)) ?_
    refine rs_30 F hK hR (by omega) dX7_goOn_346 (fun H locs hR => ?_)
    refine lv_aload_n hx hb dX7_goOn_347 rfl (lv_at hl 4 rfl) ?_
    refine rg_28 F hK hR dX7_goOn_348 ?_
    refine lv_iload_n hx hb dX7_goOn_351 rfl (lv_at hl 5 rfl) ?_
    refine lv_dup2_11 hx hb dX7_goOn_352 rfl rfl ?_
    refine ri_28 F hK hR (by omega) dX7_goOn_353 ?_
    refine lv_eq ((((((m2_nk (by decide)).trans (m2_nk (by decide))).trans (m2_nk (by decide))).trans (m2_nk (by decide))).trans (m2_nk (by decide))).trans (m2_at)) ?_
    refine lv_iconst (v := nI 1) hx hb dX7_goOn_354 (by decide) ?_
    refine nv_iadd hx hb dX7_goOn_355 ?_
    refine rs_28 F hK hR (by omega) dX7_goOn_356 (fun H locs hR => ?_)
    refine lv_goto (tgt := 472) hx hb dX7_goOn_357 (by decide) ?_
    exact gr_v F hr hlk hK hR dX7_goOn_472 (by rw [if_pos (by omega)])
